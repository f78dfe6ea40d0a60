/-! calls that change the house: choose, ladle, bin -/
theorem bX0_isTold_0 {G : Gl} {d : Nat} {X : Sh} {M : Mm} {Q : Mm → Int32 → Prop} {a : Nat} {x1 : Int32} (hS : Sh0 X a) (h : Wn G m_X0_isTold d 2 [(0, .ref a), (1, .int x1), (2, .int 0)] [] X M Q) : Wn G m_X0_isTold d 0 [(0, .ref a), (1, .int x1)] [] X M Q := by
  refine wp_iconst (v := 0) dX0_isTold_0 rfl ?_
  refine wp_istore_n (lo2 := [(2, .int _), (0, .ref _), (1, .int _)]) dX0_isTold_1 rfl (by decide) rfl ?_
  exact Wp.sub [1, 2, 0] rfl h
theorem bX0_isTold_2 {G : Gl} {d : Nat} {X : Sh} {M : Mm} {Q : Mm → Int32 → Prop} {a : Nat} {x1 : Int32} {x2 : Int32} (hS : Sh0 X a) (h : (((mI M a 7) ≤ x2 → Q M 0) ∧ (¬ ((mI M a 7) ≤ x2) → (∃ j2 : Nat, x2 = nI j2 ∧ j2 < 3 ∧ ((¬ ((mI M (a + 6) j2) = x1) → Wn G m_X0_isTold d 2 [(0, .ref a), (1, .int x1), (2, .int (x2 + 1))] [] X M Q) ∧ ((mI M (a + 6) j2) = x1 → Q M 1)))))) : Wn G m_X0_isTold d 2 [(0, .ref a), (1, .int x1), (2, .int x2)] [] X M Q := by
  refine wp_iload_n 2 dX0_isTold_2 rfl rfl ?_
  refine wp_aload_n 0 dX0_isTold_3 rfl rfl ?_
  refine wp_getI dX0_isTold_4 fl_RX0_34 rfl (sh0_K hS) ?_
  refine wp_icmp_ge (tgt := 28) dX0_isTold_7 (by decide) (fun c1 => ?_) (fun c1 => ?_)
  · replace h := h.1 c1
    refine wp_iconst (v := 0) dX0_isTold_28 rfl ?_
    exact wn_zret dX0_isTold_29 rfl (Or.inl rfl) h
  · replace h := h.2 c1
    refine wp_aload_n 0 dX0_isTold_10 rfl rfl ?_
    refine wp_getR dX0_isTold_11 fl_RX0_31 rfl (sh0_K hS) (sh0_F_told hS) ?_
    refine wp_iload_n 2 dX0_isTold_14 rfl rfl ?_
    obtain ⟨j2, o3, o4, h⟩ := h
    refine wp_iald (n := 3) dX0_isTold_15 (sh0_K_told hS) (sh0_N_told hS) (by decide) o3 o4 ?_
    refine wp_iload_n 1 dX0_isTold_16 rfl rfl ?_
    refine wp_icmp_ne (tgt := 22) dX0_isTold_17 (by decide) (fun c5 => ?_) (fun c5 => ?_)
    · replace h := h.1 c5
      refine wp_iinc (v := x2 + 1) (lo2 := [(2, .int _), (0, .ref _), (1, .int _)]) dX0_isTold_22 (q := 2) rfl rfl (by decide) rfl ?_
      refine wp_goto (tgt := 2) dX0_isTold_25 (by decide) ?_
      exact Wp.sub [1, 2, 0] rfl h
    · replace h := h.2 c5
      refine wp_iconst (v := 1) dX0_isTold_20 rfl ?_
      exact wn_zret dX0_isTold_21 rfl (Or.inr rfl) h
theorem bX0_addTold_0 {G : Gl} {d : Nat} {X : Sh} {M : Mm} {Q : Mm → Int32 → Prop} {a : Nat} {x1 : Int32} (hS : Sh0 X a) (h : (((mI M a 7) < 3 → (∃ j2 : Nat, (mI M a 7) = nI j2 ∧ j2 < 3 ∧ (∀ M5 : Mm, M5 = sI M (a + 6) j2 x1 → (∀ M6 : Mm, M6 = sI M5 a 7 ((mI M5 a 7) + 1) → Q M6 (mI M6 a 7))))) ∧ (¬ ((mI M a 7) < 3) → Q M (-1000000003)))) : Wn G m_X0_addTold d 0 [(0, .ref a), (1, .int x1)] [] X M Q := by
  refine wp_aload_n 0 dX0_addTold_0 rfl rfl ?_
  refine wp_getI dX0_addTold_1 fl_RX0_34 rfl (sh0_K hS) ?_
  refine wp_iconst (v := 3) dX0_addTold_4 rfl ?_
  refine wp_icmp_lt (tgt := 11) dX0_addTold_5 (by decide) (fun c1 => ?_) (fun c1 => ?_)
  · replace h := h.1 c1
    refine wp_aload_n 0 dX0_addTold_11 rfl rfl ?_
    refine wp_getR dX0_addTold_12 fl_RX0_31 rfl (sh0_K hS) (sh0_F_told hS) ?_
    refine wp_aload_n 0 dX0_addTold_15 rfl rfl ?_
    refine wp_getI dX0_addTold_16 fl_RX0_34 rfl (sh0_K hS) ?_
    refine wp_iload_n 1 dX0_addTold_19 rfl rfl ?_
    obtain ⟨j2, o3, o4, h⟩ := h
    refine wp_iast (n := 3) dX0_addTold_20 (sh0_K_told hS) (sh0_N_told hS) (by decide) o3 o4 ?_
    refine wp_nm (fun M5 eM5 => ?_)
    replace h := h M5 eM5
    refine wp_aload_n 0 dX0_addTold_21 rfl rfl ?_
    refine wp_dup dX0_addTold_22 rfl ?_
    refine wp_getI dX0_addTold_23 fl_RX0_34 rfl (sh0_K hS) ?_
    refine wp_iconst (v := 1) dX0_addTold_26 rfl ?_
    refine wp_iadd dX0_addTold_27 ?_
    refine wp_putI dX0_addTold_28 fp_RX0_34 rfl (sh0_K hS) ?_
    refine wp_nm (fun M6 eM6 => ?_)
    replace h := h M6 eM6
    refine wp_aload_n 0 dX0_addTold_31 rfl rfl ?_
    refine wp_getI dX0_addTold_32 fl_RX0_34 rfl (sh0_K hS) ?_
    exact wn_iret dX0_addTold_35 rfl h
  · replace h := h.2 c1
    refine wp_ldc dX0_addTold_8 kc_RX0_43 ?_
    exact wn_iret dX0_addTold_10 rfl h
theorem bX10_choose_0 {G : Gl} {d : Nat} {X : Sh} {M : Mm} {Q : Mm → Int32 → Prop} {a : Nat} {x1 : Int32} (hS : Sh9 X a) (h : ((0 ≤ x1 ∧ x1 < mI M ((a + 1) + 1) 5 → (∃ q2 : Mm → Int32 → Prop, Cn G m_X0_isTold d [.ref ((a + 1) + 1), .int x1] X M q2 ∧ ∀ M4 r5, q2 M4 r5 → ((r5 = 0 → (∃ q8 : Mm → Int32 → Prop, Cn G m_X0_addTold d [.ref ((a + 1) + 1), .int x1] X M4 q8 ∧ ∀ M10 r11, q8 M10 r11 → Q M10 r11)) ∧ (¬ (r5 = 0) → Q M4 (-1000000002))))) ∧ (¬ (0 ≤ x1 ∧ x1 < mI M ((a + 1) + 1) 5) → Q M (-1000000001)))) : Wn G m_X10_choose (d + 1) 0 [(0, .ref a), (1, .int x1)] [] X M Q := by
  refine wp_aload_n 0 dX10_choose_0 rfl rfl ?_
  refine wp_getR dX10_choose_1 fl_RX10_10 rfl (sh9_K hS) (sh9_F_house hS) ?_
  refine wp_getR dX10_choose_4 fl_RX10_68 rfl (sh2_K (sh9_S_house hS)) (sh2_F_bins (sh9_S_house hS)) ?_
  refine wp_iload_n 1 dX10_choose_7 rfl rfl ?_
  refine wp_cvip dX10_choose_8 ck_RX10_78 (sh0_K (sh2_S_bins (sh9_S_house hS))) (as := [.int x1]) rfl rfl (Nat.le_of_ble_eq_true rfl) (cp_X0_has G d X M ((a + 1) + 1) x1 (sh2_S_bins (sh9_S_house hS))) ?_
  refine wp_ifB_ne (inferInstance) (tgt := 17) dX10_choose_11 (by decide) (fun c1 => ?_) (fun c1 => ?_)
  · replace h := h.1 c1
    refine wp_aload_n 0 dX10_choose_17 rfl rfl ?_
    refine wp_getR dX10_choose_18 fl_RX10_10 rfl (sh9_K hS) (sh9_F_house hS) ?_
    refine wp_getR dX10_choose_21 fl_RX10_68 rfl (sh2_K (sh9_S_house hS)) (sh2_F_bins (sh9_S_house hS)) ?_
    refine wp_iload_n 1 dX10_choose_24 rfl rfl ?_
    obtain ⟨q2, o3, h⟩ := h
    refine wp_cvi dX10_choose_25 ck_RX10_231 (sh0_K (sh2_S_bins (sh9_S_house hS))) (as := [.int x1]) rfl rfl (Nat.le_of_ble_eq_true rfl) o3 (fun M4 r5 o6 => ?_)
    replace h := h M4 r5 o6
    refine wp_if_eq (tgt := 34) dX10_choose_28 (by decide) (fun c7 => ?_) (fun c7 => ?_)
    · replace h := h.1 c7
      refine wp_aload_n 0 dX10_choose_34 rfl rfl ?_
      refine wp_getR dX10_choose_35 fl_RX10_10 rfl (sh9_K hS) (sh9_F_house hS) ?_
      refine wp_getR dX10_choose_38 fl_RX10_68 rfl (sh2_K (sh9_S_house hS)) (sh2_F_bins (sh9_S_house hS)) ?_
      refine wp_iload_n 1 dX10_choose_41 rfl rfl ?_
      obtain ⟨q8, o9, h⟩ := h
      refine wp_cvi dX10_choose_42 ck_RX10_234 (sh0_K (sh2_S_bins (sh9_S_house hS))) (as := [.int x1]) rfl rfl (Nat.le_of_ble_eq_true rfl) o9 (fun M10 r11 o12 => ?_)
      replace h := h M10 r11 o12
      exact wn_iret dX10_choose_45 rfl h
    · replace h := h.2 c7
      refine wp_ldc dX10_choose_31 kc_RX10_116 ?_
      exact wn_iret dX10_choose_33 rfl h
  · replace h := h.2 c1
    refine wp_ldc dX10_choose_14 kc_RX10_67 ?_
    exact wn_iret dX10_choose_16 rfl h
theorem bX11_choose_0 {G : Gl} {d : Nat} {X : Sh} {M : Mm} {Q : Mm → Int32 → Prop} {a : Nat} {x1 : Int32} (hS : Sh10 X a) (hd : 1 ≤ d) (h : ((0 ≤ x1 ∧ x1 ≤ mI M (a + 1) 0 - 1 → Wn G m_X11_choose (d + 1) 13 [(0, .ref a), (1, .int x1), (2, .int 0)] [] X M Q) ∧ (¬ (0 ≤ x1 ∧ x1 ≤ mI M (a + 1) 0 - 1) → Q M (-1000000001)))) : Wn G m_X11_choose (d + 1) 0 [(0, .ref a), (1, .int x1)] [] X M Q := by
  refine wp_aload_n 0 dX11_choose_0 rfl rfl ?_
  refine wp_iload_n 1 dX11_choose_1 rfl rfl ?_
  refine wp_cvip dX11_choose_2 ck_RX11_102 (sh10_K hS) (as := [.int x1]) rfl rfl (Nat.le_of_ble_eq_true rfl) (cp_X11_isBin G d (by omega) X M a x1 hS) ?_
  refine wp_ifB_ne (inferInstance) (tgt := 11) dX11_choose_5 (by decide) (fun c1 => ?_) (fun c1 => ?_)
  · replace h := h.1 c1
    refine wp_iconst (v := 0) dX11_choose_11 rfl ?_
    refine wp_istore_n (lo2 := [(2, .int _), (0, .ref _), (1, .int _)]) dX11_choose_12 rfl (by decide) rfl ?_
    exact Wp.sub [1, 2, 0] rfl h
  · replace h := h.2 c1
    refine wp_ldc dX11_choose_8 kc_RX11_100 ?_
    exact wn_iret dX11_choose_10 rfl h
theorem bX11_choose_13 {G : Gl} {d : Nat} {X : Sh} {M : Mm} {Q : Mm → Int32 → Prop} {a : Nat} {x1 : Int32} {x2 : Int32} (hS : Sh10 X a) (h : (((mI M (a + 1) 3) ≤ x2 → ((¬ ((mI M (a + 1) 3) = 3) → (∃ j3 : Nat, (310 + (mI M (a + 1) 3)) = nI j3 ∧ j3 < 2950 ∧ (∀ M6 : Mm, M6 = sI M (a + 1) j3 x1 → (∀ M7 : Mm, M7 = sI M6 (a + 1) 3 ((mI M6 (a + 1) 3) + 1) → Q M7 (mI M7 (a + 1) 3))))) ∧ ((mI M (a + 1) 3) = 3 → Q M (-1000000003)))) ∧ (¬ ((mI M (a + 1) 3) ≤ x2) → (∃ j8 : Nat, (310 + x2) = nI j8 ∧ j8 < 2950 ∧ ((¬ ((mI M (a + 1) j8) = x1) → Wn G m_X11_choose (d + 1) 13 [(0, .ref a), (1, .int x1), (2, .int (x2 + 1))] [] X M Q) ∧ ((mI M (a + 1) j8) = x1 → Q M (-1000000002))))))) : Wn G m_X11_choose (d + 1) 13 [(0, .ref a), (1, .int x1), (2, .int x2)] [] X M Q := by
  refine wp_iload_n 2 dX11_choose_13 rfl rfl ?_
  refine wp_aload_n 0 dX11_choose_14 rfl rfl ?_
  refine wp_getR dX11_choose_15 fl_RX11_7 rfl (sh10_K hS) (sh10_F_s hS) ?_
  refine wp_iconst (v := 3) dX11_choose_18 rfl ?_
  refine wp_iald (n := 2950) dX11_choose_19 (sh10_K_s hS) (sh10_N_s hS) (by decide) rfl (by decide) ?_
  refine wp_icmp_ge (tgt := 46) dX11_choose_20 (by decide) (fun c1 => ?_) (fun c1 => ?_)
  · replace h := h.1 c1
    refine wp_aload_n 0 dX11_choose_46 rfl rfl ?_
    refine wp_getR dX11_choose_47 fl_RX11_7 rfl (sh10_K hS) (sh10_F_s hS) ?_
    refine wp_iconst (v := 3) dX11_choose_50 rfl ?_
    refine wp_iald (n := 2950) dX11_choose_51 (sh10_K_s hS) (sh10_N_s hS) (by decide) rfl (by decide) ?_
    refine wp_iconst (v := 3) dX11_choose_52 rfl ?_
    refine wp_icmp_ne (tgt := 59) dX11_choose_53 (by decide) (fun c2 => ?_) (fun c2 => ?_)
    · replace h := h.1 c2
      refine wp_aload_n 0 dX11_choose_59 rfl rfl ?_
      refine wp_getR dX11_choose_60 fl_RX11_7 rfl (sh10_K hS) (sh10_F_s hS) ?_
      refine wp_sipush (v := 310) dX11_choose_63 rfl ?_
      refine wp_aload_n 0 dX11_choose_66 rfl rfl ?_
      refine wp_getR dX11_choose_67 fl_RX11_7 rfl (sh10_K hS) (sh10_F_s hS) ?_
      refine wp_iconst (v := 3) dX11_choose_70 rfl ?_
      refine wp_iald (n := 2950) dX11_choose_71 (sh10_K_s hS) (sh10_N_s hS) (by decide) rfl (by decide) ?_
      refine wp_iadd dX11_choose_72 ?_
      refine wp_iload_n 1 dX11_choose_73 rfl rfl ?_
      obtain ⟨j3, o4, o5, h⟩ := h
      refine wp_iast (n := 2950) dX11_choose_74 (sh10_K_s hS) (sh10_N_s hS) (by decide) o4 o5 ?_
      refine wp_nm (fun M6 eM6 => ?_)
      replace h := h M6 eM6
      refine wp_aload_n 0 dX11_choose_75 rfl rfl ?_
      refine wp_getR dX11_choose_76 fl_RX11_7 rfl (sh10_K hS) (sh10_F_s hS) ?_
      refine wp_iconst (v := 3) dX11_choose_79 rfl ?_
      refine wp_dup2_11 dX11_choose_80 rfl rfl ?_
      refine wp_iald (n := 2950) dX11_choose_81 (sh10_K_s hS) (sh10_N_s hS) (by decide) rfl (by decide) ?_
      refine wp_iconst (v := 1) dX11_choose_82 rfl ?_
      refine wp_iadd dX11_choose_83 ?_
      refine wp_iast (n := 2950) dX11_choose_84 (sh10_K_s hS) (sh10_N_s hS) (by decide) rfl (by decide) ?_
      refine wp_nm (fun M7 eM7 => ?_)
      replace h := h M7 eM7
      refine wp_aload_n 0 dX11_choose_85 rfl rfl ?_
      refine wp_getR dX11_choose_86 fl_RX11_7 rfl (sh10_K hS) (sh10_F_s hS) ?_
      refine wp_iconst (v := 3) dX11_choose_89 rfl ?_
      refine wp_iald (n := 2950) dX11_choose_90 (sh10_K_s hS) (sh10_N_s hS) (by decide) rfl (by decide) ?_
      exact wn_iret dX11_choose_91 rfl h
    · replace h := h.2 c2
      refine wp_ldc dX11_choose_56 kc_RX11_101 ?_
      exact wn_iret dX11_choose_58 rfl h
  · replace h := h.2 c1
    refine wp_aload_n 0 dX11_choose_23 rfl rfl ?_
    refine wp_getR dX11_choose_24 fl_RX11_7 rfl (sh10_K hS) (sh10_F_s hS) ?_
    refine wp_sipush (v := 310) dX11_choose_27 rfl ?_
    refine wp_iload_n 2 dX11_choose_30 rfl rfl ?_
    refine wp_iadd dX11_choose_31 ?_
    obtain ⟨j8, o9, o10, h⟩ := h
    refine wp_iald (n := 2950) dX11_choose_32 (sh10_K_s hS) (sh10_N_s hS) (by decide) o9 o10 ?_
    refine wp_iload_n 1 dX11_choose_33 rfl rfl ?_
    refine wp_icmp_ne (tgt := 40) dX11_choose_34 (by decide) (fun c11 => ?_) (fun c11 => ?_)
    · replace h := h.1 c11
      refine wp_iinc (v := x2 + 1) (lo2 := [(2, .int _), (0, .ref _), (1, .int _)]) dX11_choose_40 (q := 2) rfl rfl (by decide) rfl ?_
      refine wp_goto (tgt := 13) dX11_choose_43 (by decide) ?_
      exact Wp.sub [1, 2, 0] rfl h
    · replace h := h.2 c11
      refine wp_ldc dX11_choose_37 kc_RX11_153 ?_
      exact wn_iret dX11_choose_39 rfl h
/-- bin i is among the first n chosen -/
def s_in (σ : Nat → Int32) (x : Int32) : Nat → Prop
  | 0 => False
  | n + 1 => s_in σ x n ∨ σ (310 + n) = x
theorem s_in_of {σ : Nat → Int32} {x : Int32} {k : Nat} (h : σ (310 + k) = x) : ∀ {n : Nat}, k < n → s_in σ x n
  | 0, hk => absurd hk (by omega)
  | n + 1, hk => by
    by_cases e : k = n
    · subst e
      exact Or.inr h
    · exact Or.inl (s_in_of h (n := n) (by omega))
theorem cl_X0_isTold (G : Gl) (d : Nat) {X : Sh} {M : Mm} {a nt : Nat} {x : Int32} {σ : Nat → Int32} {Q : Mm → Int32 → Prop} (hS : Sh0 X a) (hn : mI M a 7 = nI nt) (ht : nt ≤ 3) (hr : ∀ k, k < 3 → mI M (a + 6) k = σ (310 + k)) (h0 : ¬ s_in σ x nt → Q M 0) (h1 : s_in σ x nt → Q M 1) :
    ∀ n i : Nat, i + n = nt → ¬ s_in σ x i → Wn G m_X0_isTold d 2 [(0, .ref a), (1, .int x), (2, .int (nI i))] [] X M Q
  | 0, i, h, hi => by
    have hi2 : i = nt := h
    subst hi2
    exact bX0_isTold_2 hS ⟨fun _ => h0 hi, fun h => absurd (by rw [hn]; exact Int32.le_refl _) h⟩
  | n + 1, i, h, hi => by
    refine bX0_isTold_2 hS ⟨fun h2 => ?_, fun _ => ⟨i, rfl, by omega, fun h3 => ?_, fun h3 => ?_⟩⟩
    · rw [hn] at h2
      have := (nI_leI (by omega) (by omega)).mp h2
      omega
    · rw [nI_1]
      rw [hr i (by omega)] at h3
      exact cl_X0_isTold G d hS hn ht hr h0 h1 n (i + 1) (by omega) (fun q => by rcases q with q | q; exact hi q; exact h3 q)
    · rw [hr i (by omega)] at h3
      exact h1 (s_in_of h3 (by omega))
theorem cl_X11_choose (G : Gl) (d : Nat) {X : Sh} {M : Mm} {a nt : Nat} {x : Int32} {Q : Mm → Int32 → Prop} (hS : Sh10 X a) (hn : mI M (a + 1) 3 = nI nt) (ht : nt ≤ 3) (h0 : ¬ s_in (mI M (a + 1)) x nt → Wn G m_X11_choose (d + 1) 13 [(0, .ref a), (1, .int x), (2, .int (nI nt))] [] X M Q) (h1 : s_in (mI M (a + 1)) x nt → Q M (-1000000002)) :
    ∀ n i : Nat, i + n = nt → ¬ s_in (mI M (a + 1)) x i → Wn G m_X11_choose (d + 1) 13 [(0, .ref a), (1, .int x), (2, .int (nI i))] [] X M Q
  | 0, i, h, hi => by
    have hi2 : i = nt := h
    subst hi2
    exact h0 hi
  | n + 1, i, h, hi => by
    refine bX11_choose_13 hS ⟨fun h2 => ?_, fun _ => ⟨310 + i, (by first | rfl | (simp only [n_lit, nI_add, pk_mul]; done) | (simp only [n_lit, nI_add, pk_mul]; exact congrArg nI (by omega))), by omega, fun h3 => ?_, fun h3 => ?_⟩⟩
    · rw [hn] at h2
      have := (nI_leI (by omega) (by omega)).mp h2
      omega
    · rw [nI_1]
      exact cl_X11_choose G d hS hn ht h0 h1 n (i + 1) (by omega) (fun q => by rcases q with q | q; exact hi q; exact h3 q)
    · exact h1 (s_in_of h3 (by omega))
theorem case_choose (G : Gl) (d : Nat) (hd : 16 ≤ d) (X : Sh) (b m : Nat) (hS : Sh9 X b) (hM : Sh10 X m) (hbm : b + 266 ≤ m) (x1 : Int32) : Case G d X b m m_X10_choose m_X11_choose [.int x1] := by
  obtain ⟨d, rfl⟩ : ∃ d1, d = d1 + 1 := ⟨d - 1, by omega⟩
  intro M hs
  obtain ⟨⟨nb, nl, nx, nt, nd, la, hh⟩, hr⟩ := id hs
  obtain ⟨hW, hB, hF, hT, hD, hR⟩ := id hh
  obtain ⟨w0, w1, w2, w3, w4, w5, w6, w7, w8, w9, wb, wf, wl, wt, wd, ws⟩ := id hW
  have hS0 := sh2_S_bins (sh9_S_house hS)
  have t7 : mI M (b + 1 + 1) 7 = nI nt := hB.2.1.trans w6
  by_cases h : 0 ≤ x1 ∧ x1 < nI nb
  · have h' : 0 ≤ x1 ∧ x1 < mI M (b + 1 + 1) 5 := by rw [hB.1]; exact h
    have h'' : 0 ≤ x1 ∧ x1 ≤ mI M (m + 1) 0 - 1 := by rw [w0, has_iff (by omega)]; exact h
    obtain ⟨i, hi, rfl⟩ := ix_of (by omega) h.1 h.2
    have told : Cn G m_X0_isTold d [.ref (b + 1 + 1), .int (nI i)] X M (fun M2 r => M2 = M ∧ (r = 0 ∧ ¬ s_in (mI M (m + 1)) (nI i) nt ∨ r = 1 ∧ s_in (mI M (m + 1)) (nI i) nt)) := Cn.of (by decide) (Nat.le_of_ble_eq_true rfl) (bX0_isTold_0 hS0 (cl_X0_isTold G d hS0 t7 w7 hB.2.2.2 (fun q => ⟨rfl, Or.inl ⟨rfl, q⟩⟩) (fun q => ⟨rfl, Or.inr ⟨rfl, q⟩⟩) nt 0 (by omega) (fun q => q)))
    refine Cn.of (by decide) (Nat.le_of_ble_eq_true rfl) (bX10_choose_0 hS ⟨fun _ => ⟨_, told, ?_⟩, fun q => absurd h' q⟩)
    rintro M4 r5 ⟨e, hq⟩
    have e := e.symm
    subst e
    rcases hq with ⟨rfl, hin⟩ | ⟨rfl, hin⟩
    · refine ⟨fun _ => ?_, fun q => absurd rfl q⟩
      by_cases ht : nt < 3
      · have l3 : mI M (b + 1 + 1) 7 < 3 := by
          rw [t7]
          exact (nI_ltI (b := 3) (by omega) (by omega)).mpr ht
        have n3 : ¬ mI M (m + 1) 3 = 3 := fun q => by
          rw [w6] at q
          have := (nI_inj (b := 3) (by omega) (by omega)).mp q
          omega
        refine ⟨_, Cn.of (by decide) (Nat.le_of_ble_eq_true rfl) (bX0_addTold_0 (Q := fun M2 r => M2 = sI (sI M (b + 1 + 1 + 6) nt (nI i)) (b + 1 + 1) 7 (nI (nt + 1)) ∧ r = nI (nt + 1)) hS0 ⟨fun _ => ⟨nt, t7, ht, ?_⟩, fun q => absurd l3 q⟩), ?_⟩
        · rintro M5 rfl M6 e6
          have v6 : mI (sI M (b + 1 + 1 + 6) nt (nI i)) (b + 1 + 1) 7 = nI nt := by rw [mI_sI, up2_off _ _ _ (by omega), t7]
          rw [v6, nI_1] at e6
          exact ⟨e6, by rw [e6, mI_sI, up2_same]⟩
        · rintro M10 r11 ⟨e10, rfl⟩
          have m10 : ∀ c, c ≠ b + 1 + 1 → c ≠ b + 1 + 1 + 6 → mI M10 c = mI M c := fun c h1 h2 => by rw [e10, mI_sI, up2_off _ _ _ h1, mI_sI, up2_off _ _ _ h2]
          have s10 : mI M10 (m + 1) = mI M (m + 1) := m10 _ (by omega) (by omega)
          refine Cn.of (by decide) (Nat.le_of_ble_eq_true rfl) (bX11_choose_0 hM (by omega) ⟨fun _ => ?_, fun q => absurd (by rw [s10]; exact h'') q⟩)
          refine cl_X11_choose G d hM (nt := nt) (by rw [s10]; exact w6) w7 (fun _ => ?_) (fun q => absurd (by rw [s10] at q; exact q) hin) nt 0 (by omega) (fun q => q)
          refine bX11_choose_13 hM ⟨fun _ => ⟨fun _ => ⟨310 + nt, by rw [s10, w6]; exact (by first | rfl | (simp only [n_lit, nI_add, pk_mul]; done) | (simp only [n_lit, nI_add, pk_mul]; exact congrArg nI (by omega))), by omega, ?_⟩, fun q => absurd (by rw [s10] at q; exact q) n3⟩, fun q => absurd (by rw [s10, w6]; exact Int32.le_refl _) q⟩
          intro M6 e6 M7 e7
          have v7 : mI M6 (m + 1) 3 = nI nt := by rw [e6, mI_sI, up2_k _ _ _ (by omega), s10, w6]
          rw [v7, nI_1] at e7
          have m7 : ∀ c, c ≠ m + 1 → mI M7 c = mI M10 c := fun c hc => by rw [e7, mI_sI, up2_off _ _ _ hc, e6, mI_sI, up2_off _ _ _ hc]
          have s7 : mI M7 (m + 1) = upd (upd (mI M (m + 1)) (310 + nt) (nI i)) 3 (nI (nt + 1)) := by rw [e7, mI_sI, up2_row, e6, mI_sI, up2_row, s10]
          have R7 : mR M7 = mR M := by
            rw [e7, e6, e10]
            rfl
          have u : ∀ k, k ≠ 3 → k ≠ 310 + nt → mI M7 (m + 1) k = mI M (m + 1) k := fun k h1 h2 => by rw [s7, upd_ne h1, upd_ne h2]
          have u3 : mI M7 (m + 1) 3 = nI (nt + 1) := by rw [s7, upd_eq]
          have uc : mI M7 (m + 1) (310 + nt) = nI i := by rw [s7, upd_ne (by omega), upd_eq]
          refine ⟨u3.symm, ⟨nb, nl, nx, nt + 1, nd, la, ?_⟩, hr.house hbm (fun c h4 h5 => by rw [m7 _ h5, m10 _ (by omega) (by omega)]) (fun c _ => by rw [R7])⟩
          refine hh.small (fun k hk => u k (by omega) (by omega)) u3 (by omega) (by rw [u _ (by omega) (by omega), w8]) w9 (fun k hk => ?_) (fun k hk => by rw [u _ (by omega) (by omega)]; exact wd k hk) (by rw [u _ (by omega) (by omega), u _ (by omega) (by omega)]; exact ws) ?_ ?_ (fun k hk => ?_) ?_ (fun k hk => ?_) (fun c h4 h5 h6 => by rw [m7 _ (by omega), m10 _ (by omega) (by omega)]) (by rw [R7])
          · by_cases e : k = nt
            · subst e
              exact ⟨i, hi, uc⟩
            · rw [u _ (by omega) (by omega)]
              exact wt k (by omega)
          · rw [u3, m7 _ (by omega), e10, mI_sI, up2_same]
          · rw [m7 _ (by omega), e10, mI_sI, up2_k _ _ _ (by omega), mI_sI, up2_off _ _ _ (by omega)]
          · rw [m7 _ (by omega), e10, mI_sI, up2_off _ _ _ (by omega), mI_sI]
            by_cases e : k = nt
            · subst e
              rw [uc]
              exact up2_same _ _ _ _
            · rw [u _ (by omega) (by omega), ← hB.2.2.2 k hk]
              exact up2_k _ _ _ e
          · refine ⟨by rw [m7 _ (by omega), m10 _ (by omega) (by omega)]; exact hD.1, fun k hk => ?_⟩
            rw [m7 (b + 1 + 82 + 1) (by omega), m7 (b + 1 + 82 + 2) (by omega), m10 _ (by omega) (by omega), m10 _ (by omega) (by omega), u _ (by omega) (by omega), u _ (by omega) (by omega)]
            exact hD.2 k hk
          · rw [m7 _ (by omega), m10 _ (by omega) (by omega), u _ (by omega) (by omega)]
            exact hR k hk
      · have l3 : ¬ mI M (b + 1 + 1) 7 < 3 := fun q => by
          rw [t7] at q
          exact ht ((nI_ltI (b := 3) (by omega) (by omega)).mp q)
        have n3 : mI M (m + 1) 3 = 3 := by
          rw [w6]
          exact congrArg nI (show nt = 3 by omega)
        refine ⟨_, Cn.of (by decide) (Nat.le_of_ble_eq_true rfl) (bX0_addTold_0 (Q := fun M2 r => M2 = M ∧ r = -1000000003) hS0 ⟨fun q => absurd q l3, fun _ => ⟨rfl, rfl⟩⟩), ?_⟩
        rintro M10 r11 ⟨e10, rfl⟩
        have e10 := e10.symm
        subst e10
        refine Cn.of (by decide) (Nat.le_of_ble_eq_true rfl) (bX11_choose_0 hM (by omega) ⟨fun _ => ?_, fun q => absurd h'' q⟩)
        refine cl_X11_choose G d hM (nt := nt) w6 w7 (fun _ => ?_) (fun q => absurd q hin) nt 0 (by omega) (fun q => q)
        exact bX11_choose_13 hM ⟨fun _ => ⟨fun q => absurd n3 q, fun _ => ⟨rfl, hs⟩⟩, fun q => absurd (by rw [w6]; exact Int32.le_refl _) q⟩
    · refine ⟨fun q => absurd q (by decide), fun _ => ?_⟩
      refine Cn.of (by decide) (Nat.le_of_ble_eq_true rfl) (bX11_choose_0 hM (by omega) ⟨fun _ => ?_, fun q => absurd h'' q⟩)
      exact cl_X11_choose G d hM (nt := nt) w6 w7 (fun q => absurd hin q) (fun _ => ⟨rfl, hs⟩) nt 0 (by omega) (fun q => q)
  · have h' : ¬ (0 ≤ x1 ∧ x1 < mI M (b + 1 + 1) 5) := by rw [hB.1]; exact h
    have h'' : ¬ (0 ≤ x1 ∧ x1 ≤ mI M (m + 1) 0 - 1) := by rw [w0, has_iff (by omega)]; exact h
    exact Cn.of (by decide) (Nat.le_of_ble_eq_true rfl) (bX10_choose_0 hS ⟨fun q => absurd q h', fun _ => Cn.of (by decide) (Nat.le_of_ble_eq_true rfl) (bX11_choose_0 hM (by omega) ⟨fun q => absurd q h'', fun _ => ⟨rfl, hs⟩⟩)⟩)
theorem bX3_add_0 {G : Gl} {d : Nat} {X : Sh} {M : Mm} {Q : Mm → Int32 → Prop} {a : Nat} {x1 : Int32} (hS : Sh3 X a) (h : (((mI M a 2) < 6 → (∀ v2 : Int32, v2 = (mI M a 2) → (∃ j3 : Nat, v2 = nI j3 ∧ j3 < 6 ∧ (∀ M6 : Mm, M6 = sI M (a + 1) j3 x1 → (∀ M7 : Mm, M7 = sI M6 (a + 2) j3 0 → (∀ M8 : Mm, M8 = sI M7 a 2 ((mI M7 a 2) + 1) → Q M8 v2)))))) ∧ (¬ ((mI M a 2) < 6) → Q M (-1000000003)))) : Wn G m_X3_add d 0 [(0, .ref a), (1, .int x1)] [] X M Q := by
  refine wp_aload_n 0 dX3_add_0 rfl rfl ?_
  refine wp_getI dX3_add_1 fl_RX3_18 rfl (sh3_K hS) ?_
  refine wp_bipush (v := 6) dX3_add_4 rfl ?_
  refine wp_icmp_lt (tgt := 12) dX3_add_6 (by decide) (fun c1 => ?_) (fun c1 => ?_)
  · replace h := h.1 c1
    refine wp_aload_n 0 dX3_add_12 rfl rfl ?_
    refine wp_getI dX3_add_13 fl_RX3_18 rfl (sh3_K hS) ?_
    refine wp_topi (fun v2 ev2 => ?_)
    replace h := h v2 ev2
    refine wp_istore_n (lo2 := [(2, .int _), (0, .ref _), (1, .int _)]) dX3_add_16 rfl (by decide) rfl ?_
    refine wp_aload_n 1 dX3_add_17 rfl rfl ?_
    refine wp_getR dX3_add_18 fl_RX3_9 rfl (sh3_K hS) (sh3_F_cap hS) ?_
    refine wp_iload_n 0 dX3_add_21 rfl rfl ?_
    refine wp_iload_n 2 dX3_add_22 rfl rfl ?_
    obtain ⟨j3, o4, o5, h⟩ := h
    refine wp_iast (n := 6) dX3_add_23 (sh3_K_cap hS) (sh3_N_cap hS) (by decide) o4 o5 ?_
    refine wp_nm (fun M6 eM6 => ?_)
    replace h := h M6 eM6
    refine wp_aload_n 1 dX3_add_24 rfl rfl ?_
    refine wp_getR dX3_add_25 fl_RX3_15 rfl (sh3_K hS) (sh3_F_ready hS) ?_
    refine wp_iload_n 0 dX3_add_28 rfl rfl ?_
    refine wp_iconst (v := 0) dX3_add_29 rfl ?_
    refine wp_iast (n := 6) dX3_add_30 (sh3_K_ready hS) (sh3_N_ready hS) (by decide) o4 o5 ?_
    refine wp_nm (fun M7 eM7 => ?_)
    replace h := h M7 eM7
    refine wp_aload_n 1 dX3_add_31 rfl rfl ?_
    refine wp_dup dX3_add_32 rfl ?_
    refine wp_getI dX3_add_33 fl_RX3_18 rfl (sh3_K hS) ?_
    refine wp_iconst (v := 1) dX3_add_36 rfl ?_
    refine wp_iadd dX3_add_37 ?_
    refine wp_putI dX3_add_38 fp_RX3_18 rfl (sh3_K hS) ?_
    refine wp_nm (fun M8 eM8 => ?_)
    replace h := h M8 eM8
    refine wp_iload_n 0 dX3_add_41 rfl rfl ?_
    exact wn_iret dX3_add_42 rfl h
  · replace h := h.2 c1
    refine wp_ldc dX3_add_9 kc_RX3_31 ?_
    exact wn_iret dX3_add_11 rfl h
theorem bX10_ladle_0 {G : Gl} {d : Nat} {X : Sh} {M : Mm} {Q : Mm → Int32 → Prop} {a : Nat} {x1 : Int32} (hS : Sh9 X a) (h : ((1 ≤ x1 ∧ x1 ≤ 999 → (∃ q2 : Mm → Int32 → Prop, Cn G m_X3_add d [.ref ((a + 1) + 82), .int x1] X M q2 ∧ ∀ M4 r5, q2 M4 r5 → Q M4 r5)) ∧ (¬ (1 ≤ x1 ∧ x1 ≤ 999) → Q M (-1000000001)))) : Wn G m_X10_ladle (d + 1) 0 [(0, .ref a), (1, .int x1)] [] X M Q := by
  refine wp_iload_n 1 dX10_ladle_0 rfl rfl ?_
  refine wp_iconst (v := 1) dX10_ladle_1 rfl ?_
  refine wp_sipush (v := 999) dX10_ladle_2 rfl ?_
  refine wp_csip dX10_ladle_5 ck_RX10_63 rfl (as := [.int x1, .int 1, .int 999]) rfl rfl (Nat.le_of_ble_eq_true rfl) (cp_X10_isWithin G d X M x1 1 999) ?_
  refine wp_ifB_ne (inferInstance) (tgt := 14) dX10_ladle_8 (by decide) (fun c1 => ?_) (fun c1 => ?_)
  · replace h := h.1 c1
    refine wp_aload_n 0 dX10_ladle_14 rfl rfl ?_
    refine wp_getR dX10_ladle_15 fl_RX10_10 rfl (sh9_K hS) (sh9_F_house hS) ?_
    refine wp_getR dX10_ladle_18 fl_RX10_250 rfl (sh2_K (sh9_S_house hS)) (sh2_F_ladles (sh9_S_house hS)) ?_
    refine wp_iload_n 1 dX10_ladle_21 rfl rfl ?_
    obtain ⟨q2, o3, h⟩ := h
    refine wp_cvi dX10_ladle_22 ck_RX10_254 (sh3_K (sh2_S_ladles (sh9_S_house hS))) (as := [.int x1]) rfl rfl (Nat.le_of_ble_eq_true rfl) o3 (fun M4 r5 o6 => ?_)
    replace h := h M4 r5 o6
    exact wn_iret dX10_ladle_25 rfl h
  · replace h := h.2 c1
    refine wp_ldc dX10_ladle_11 kc_RX10_67 ?_
    exact wn_iret dX10_ladle_13 rfl h
theorem bX11_ladle_0 {G : Gl} {d : Nat} {X : Sh} {M : Mm} {Q : Mm → Int32 → Prop} {a : Nat} {x1 : Int32} (hS : Sh10 X a) (h : ((1 ≤ x1 ∧ x1 ≤ 999 → ((¬ ((mI M (a + 1) 4) = 6) → (∃ j3 : Nat, (320 + 2 * (mI M (a + 1) 4)) = nI j3 ∧ j3 < 2950 ∧ (∀ M6 : Mm, M6 = sI M (a + 1) j3 x1 → (∃ j7 : Nat, ((320 + 2 * (mI M6 (a + 1) 4)) + 1) = nI j7 ∧ j7 < 2950 ∧ (∀ M10 : Mm, M10 = sI M6 (a + 1) j7 0 → (∀ M11 : Mm, M11 = sI M10 (a + 1) 4 ((mI M10 (a + 1) 4) + 1) → Q M11 ((mI M11 (a + 1) 4) - 1))))))) ∧ ((mI M (a + 1) 4) = 6 → Q M (-1000000003)))) ∧ (¬ (1 ≤ x1 ∧ x1 ≤ 999) → Q M (-1000000001)))) : Wn G m_X11_ladle (d + 1) 0 [(0, .ref a), (1, .int x1)] [] X M Q := by
  refine wp_iload_n 1 dX11_ladle_0 rfl rfl ?_
  refine wp_i2l dX11_ladle_1 ?_
  refine wp_lconst (v := 1) dX11_ladle_2 rfl ?_
  refine wp_ldc2 dX11_ladle_3 kc_RX11_109 ?_
  refine wp_csip dX11_ladle_6 ck_RX11_78 rfl (as := [.long x1.toInt64, .long 1, .long 999]) rfl rfl (Nat.le_of_ble_eq_true rfl) (cp_X11_isIn G d X M x1 1 999 (by decide) (by decide)) ?_
  refine wp_ifB_ne (inferInstance) (tgt := 15) dX11_ladle_9 (by decide) (fun c1 => ?_) (fun c1 => ?_)
  · replace h := h.1 c1
    refine wp_aload_n 0 dX11_ladle_15 rfl rfl ?_
    refine wp_getR dX11_ladle_16 fl_RX11_7 rfl (sh10_K hS) (sh10_F_s hS) ?_
    refine wp_iconst (v := 4) dX11_ladle_19 rfl ?_
    refine wp_iald (n := 2950) dX11_ladle_20 (sh10_K_s hS) (sh10_N_s hS) (by decide) rfl (by decide) ?_
    refine wp_bipush (v := 6) dX11_ladle_21 rfl ?_
    refine wp_icmp_ne (tgt := 29) dX11_ladle_23 (by decide) (fun c2 => ?_) (fun c2 => ?_)
    · replace h := h.1 c2
      refine wp_aload_n 0 dX11_ladle_29 rfl rfl ?_
      refine wp_getR dX11_ladle_30 fl_RX11_7 rfl (sh10_K hS) (sh10_F_s hS) ?_
      refine wp_aload_n 0 dX11_ladle_33 rfl rfl ?_
      refine wp_aload_n 0 dX11_ladle_34 rfl rfl ?_
      refine wp_getR dX11_ladle_35 fl_RX11_7 rfl (sh10_K hS) (sh10_F_s hS) ?_
      refine wp_iconst (v := 4) dX11_ladle_38 rfl ?_
      refine wp_iald (n := 2950) dX11_ladle_39 (sh10_K_s hS) (sh10_N_s hS) (by decide) rfl (by decide) ?_
      refine wp_cvip dX11_ladle_40 ck_RX11_320 (sh10_K hS) (as := [.int ((mI M (a + 1) 4))]) rfl rfl (Nat.le_of_ble_eq_true rfl) (cp_X11_ladleAt G d X M a (mI M (a + 1) 4) hS) ?_
      refine wp_iload_n 1 dX11_ladle_43 rfl rfl ?_
      obtain ⟨j3, o4, o5, h⟩ := h
      refine wp_iast (n := 2950) dX11_ladle_44 (sh10_K_s hS) (sh10_N_s hS) (by decide) o4 o5 ?_
      refine wp_nm (fun M6 eM6 => ?_)
      replace h := h M6 eM6
      refine wp_aload_n 0 dX11_ladle_45 rfl rfl ?_
      refine wp_getR dX11_ladle_46 fl_RX11_7 rfl (sh10_K hS) (sh10_F_s hS) ?_
      refine wp_aload_n 0 dX11_ladle_49 rfl rfl ?_
      refine wp_aload_n 0 dX11_ladle_50 rfl rfl ?_
      refine wp_getR dX11_ladle_51 fl_RX11_7 rfl (sh10_K hS) (sh10_F_s hS) ?_
      refine wp_iconst (v := 4) dX11_ladle_54 rfl ?_
      refine wp_iald (n := 2950) dX11_ladle_55 (sh10_K_s hS) (sh10_N_s hS) (by decide) rfl (by decide) ?_
      refine wp_cvip dX11_ladle_56 ck_RX11_320 (sh10_K hS) (as := [.int ((mI M6 (a + 1) 4))]) rfl rfl (Nat.le_of_ble_eq_true rfl) (cp_X11_ladleAt G d X M6 a (mI M6 (a + 1) 4) hS) ?_
      refine wp_iconst (v := 1) dX11_ladle_59 rfl ?_
      refine wp_iadd dX11_ladle_60 ?_
      refine wp_iconst (v := 0) dX11_ladle_61 rfl ?_
      obtain ⟨j7, o8, o9, h⟩ := h
      refine wp_iast (n := 2950) dX11_ladle_62 (sh10_K_s hS) (sh10_N_s hS) (by decide) o8 o9 ?_
      refine wp_nm (fun M10 eM10 => ?_)
      replace h := h M10 eM10
      refine wp_aload_n 0 dX11_ladle_63 rfl rfl ?_
      refine wp_getR dX11_ladle_64 fl_RX11_7 rfl (sh10_K hS) (sh10_F_s hS) ?_
      refine wp_iconst (v := 4) dX11_ladle_67 rfl ?_
      refine wp_dup2_11 dX11_ladle_68 rfl rfl ?_
      refine wp_iald (n := 2950) dX11_ladle_69 (sh10_K_s hS) (sh10_N_s hS) (by decide) rfl (by decide) ?_
      refine wp_iconst (v := 1) dX11_ladle_70 rfl ?_
      refine wp_iadd dX11_ladle_71 ?_
      refine wp_iast (n := 2950) dX11_ladle_72 (sh10_K_s hS) (sh10_N_s hS) (by decide) rfl (by decide) ?_
      refine wp_nm (fun M11 eM11 => ?_)
      replace h := h M11 eM11
      refine wp_aload_n 0 dX11_ladle_73 rfl rfl ?_
      refine wp_getR dX11_ladle_74 fl_RX11_7 rfl (sh10_K hS) (sh10_F_s hS) ?_
      refine wp_iconst (v := 4) dX11_ladle_77 rfl ?_
      refine wp_iald (n := 2950) dX11_ladle_78 (sh10_K_s hS) (sh10_N_s hS) (by decide) rfl (by decide) ?_
      refine wp_iconst (v := 1) dX11_ladle_79 rfl ?_
      refine wp_isub dX11_ladle_80 ?_
      exact wn_iret dX11_ladle_81 rfl h
    · replace h := h.2 c2
      refine wp_ldc dX11_ladle_26 kc_RX11_101 ?_
      exact wn_iret dX11_ladle_28 rfl h
  · replace h := h.2 c1
    refine wp_ldc dX11_ladle_12 kc_RX11_100 ?_
    exact wn_iret dX11_ladle_14 rfl h
theorem case_ladle (G : Gl) (d : Nat) (hd : 16 ≤ d) (X : Sh) (b m : Nat) (hS : Sh9 X b) (hM : Sh10 X m) (hbm : b + 266 ≤ m) (x1 : Int32) : Case G d X b m m_X10_ladle m_X11_ladle [.int x1] := by
  obtain ⟨d, rfl⟩ : ∃ d1, d = d1 + 1 := ⟨d - 1, by omega⟩
  intro M hs
  obtain ⟨⟨nb, nl, nx, nt, nd, la, hh⟩, hr⟩ := id hs
  obtain ⟨hW, hB, hF, hT, hD, hR⟩ := id hh
  obtain ⟨w0, w1, w2, w3, w4, w5, w6, w7, w8, w9, wb, wf, wl, wt, wd, ws⟩ := id hW
  have hS3 := sh2_S_ladles (sh9_S_house hS)
  by_cases h : 1 ≤ x1 ∧ x1 ≤ 999
  · obtain ⟨v, hv, rfl⟩ := ix_le (nb := 999) (by omega) (Int32.le_trans (by decide) h.1) h.2
    have hv1 : 1 ≤ v := (nI_leI (a := 1) (by omega) (by omega)).mp h.1
    by_cases ht : nd < 6
    · have l6 : mI M (b + 1 + 82) 2 < 6 := by
        rw [hD.1]
        exact (nI_ltI (b := 6) (by omega) (by omega)).mpr ht
      have n6 : ¬ mI M (m + 1) 4 = 6 := fun q => by
        rw [w8] at q
        have := (nI_inj (b := 6) (by omega) (by omega)).mp q
        omega
      refine Cn.of (by decide) (Nat.le_of_ble_eq_true rfl) (bX10_ladle_0 hS ⟨fun _ => ⟨_, Cn.of (by decide) (Nat.le_of_ble_eq_true rfl) (bX3_add_0 (Q := fun M2 r => M2 = sI (sI (sI M (b + 1 + 82 + 1) nd (nI v)) (b + 1 + 82 + 2) nd 0) (b + 1 + 82) 2 (nI (nd + 1)) ∧ r = nI nd) hS3 ⟨fun _ => ?_, fun q => absurd l6 q⟩), ?_⟩, fun q => absurd h q⟩)
      · rintro v2 e2
        refine ⟨nd, e2.trans hD.1, ht, ?_⟩
        rintro M6 rfl M7 rfl M8 e8
        have v8 : mI (sI (sI M (b + 1 + 82 + 1) nd (nI v)) (b + 1 + 82 + 2) nd 0) (b + 1 + 82) 2 = nI nd := by rw [mI_sI, up2_off _ _ _ (by omega), mI_sI, up2_off _ _ _ (by omega), hD.1]
        rw [v8, nI_1] at e8
        exact ⟨e8, e2.trans hD.1⟩
      · rintro M10 r11 ⟨e10, rfl⟩
        have m10 : ∀ c, c < b + 83 ∨ b + 85 < c → mI M10 c = mI M c := fun c h1 => by rw [e10, mI_sI, up2_off _ _ _ (by omega), mI_sI, up2_off _ _ _ (by omega), mI_sI, up2_off _ _ _ (by omega)]
        have s10 : mI M10 (m + 1) = mI M (m + 1) := m10 _ (by omega)
        refine Cn.of (by decide) (Nat.le_of_ble_eq_true rfl) (bX11_ladle_0 hM ⟨fun _ => ⟨fun _ => ⟨320 + 2 * nd, by rw [s10, w8]; exact (by first | rfl | (simp only [n_lit, nI_add, pk_mul]; done) | (simp only [n_lit, nI_add, pk_mul]; exact congrArg nI (by omega))), by omega, ?_⟩, fun q => absurd (by rw [s10] at q; exact q) n6⟩, fun q => absurd h q⟩)
        intro M6 e6
        have v6 : mI M6 (m + 1) 4 = nI nd := by rw [e6, mI_sI, up2_k _ _ _ (by omega), s10, w8]
        refine ⟨321 + 2 * nd, by rw [v6]; exact (by first | rfl | (simp only [n_lit, nI_add, pk_mul]; done) | (simp only [n_lit, nI_add, pk_mul]; exact congrArg nI (by omega))), by omega, ?_⟩
        intro M7 e7 M8 e8
        have v7 : mI M7 (m + 1) 4 = nI nd := by rw [e7, mI_sI, up2_k _ _ _ (by omega), v6]
        rw [v7, nI_1] at e8
        have m8 : ∀ c, c ≠ m + 1 → mI M8 c = mI M10 c := fun c hc => by rw [e8, mI_sI, up2_off _ _ _ hc, e7, mI_sI, up2_off _ _ _ hc, e6, mI_sI, up2_off _ _ _ hc]
        have s8 : mI M8 (m + 1) = upd (upd (upd (mI M (m + 1)) (320 + 2 * nd) (nI v)) (321 + 2 * nd) 0) 4 (nI (nd + 1)) := by rw [e8, mI_sI, up2_row, e7, mI_sI, up2_row, e6, mI_sI, up2_row, s10]
        have R8 : mR M8 = mR M := by
          rw [e8, e7, e6, e10]
          rfl
        have u : ∀ k, k ≠ 4 → k ≠ 320 + 2 * nd → k ≠ 321 + 2 * nd → mI M8 (m + 1) k = mI M (m + 1) k := fun k h1 h2 h3 => by rw [s8, upd_ne h1, upd_ne h3, upd_ne h2]
        have u4 : mI M8 (m + 1) 4 = nI (nd + 1) := by rw [s8, upd_eq]
        have uc : mI M8 (m + 1) (320 + 2 * nd) = nI v := by rw [s8, upd_ne (by omega), upd_ne (by omega), upd_eq]
        have ur : mI M8 (m + 1) (321 + 2 * nd) = 0 := by rw [s8, upd_ne (by omega), upd_eq]
        refine ⟨by rw [u4, nI_pred], ⟨nb, nl, nx, nt, nd + 1, la, ?_⟩, hr.house hbm (fun c h4 h5 => by rw [m8 _ h5, m10 _ (by omega)]) (fun c _ => by rw [R8])⟩
        refine hh.small (fun k hk => u k (by omega) (by omega) (by omega)) (by rw [u _ (by omega) (by omega) (by omega), w6]) w7 u4 (by omega) (fun k hk => by rw [u _ (by omega) (by omega) (by omega)]; exact wt k hk) (fun k hk => ?_) (by rw [u _ (by omega) (by omega) (by omega), u _ (by omega) (by omega) (by omega)]; exact ws) ?_ ?_ (fun k hk => ?_) ⟨?_, fun k hk => ?_⟩ (fun k hk => ?_) (fun c h4 h5 h6 => by rw [m8 _ (by omega), m10 _ (by omega)]) (by rw [R8])
        · by_cases e : k = nd
          · subst e
            exact ⟨v, hv1, hv, uc⟩
          · rw [u _ (by omega) (by omega) (by omega)]
            exact wd k (by omega)
        · rw [m8 _ (by omega), m10 _ (by omega), u _ (by omega) (by omega) (by omega)]
          exact hB.2.1
        · rw [m8 _ (by omega), m10 _ (by omega)]
        · rw [m8 _ (by omega), m10 _ (by omega), u _ (by omega) (by omega) (by omega)]
          exact hB.2.2.2 k hk
        · rw [m8 _ (by omega), e10, mI_sI, up2_same]
        · have r1 : mI M8 (b + 1 + 82 + 1) = upd (mI M (b + 1 + 82 + 1)) nd (nI v) := by rw [m8 _ (by omega), e10, mI_sI, up2_off _ _ _ (by omega), mI_sI, up2_off _ _ _ (by omega), mI_sI, up2_row]
          have r2 : mI M8 (b + 1 + 82 + 2) = upd (mI M (b + 1 + 82 + 2)) nd 0 := by rw [m8 _ (by omega), e10, mI_sI, up2_off _ _ _ (by omega), mI_sI, up2_row, mI_sI, up2_off _ _ _ (by omega)]
          rw [r1, r2]
          by_cases e : k = nd
          · subst e
            rw [upd_eq, upd_eq]
            exact ⟨uc.symm, ur.symm⟩
          · rw [upd_ne e, upd_ne e, u _ (by omega) (by omega) (by omega), u _ (by omega) (by omega) (by omega)]
            exact hD.2 k (by omega)
        · rw [m8 _ (by omega), m10 _ (by omega), u _ (by omega) (by omega) (by omega)]
          exact hR k hk
    · have l6 : ¬ mI M (b + 1 + 82) 2 < 6 := fun q => by
        rw [hD.1] at q
        exact ht ((nI_ltI (b := 6) (by omega) (by omega)).mp q)
      have n6 : mI M (m + 1) 4 = 6 := by
        rw [w8]
        exact congrArg nI (show nd = 6 by omega)
      refine Cn.of (by decide) (Nat.le_of_ble_eq_true rfl) (bX10_ladle_0 hS ⟨fun _ => ⟨_, Cn.of (by decide) (Nat.le_of_ble_eq_true rfl) (bX3_add_0 (Q := fun M2 r => M2 = M ∧ r = -1000000003) hS3 ⟨fun q => absurd q l6, fun _ => ⟨rfl, rfl⟩⟩), ?_⟩, fun q => absurd h q⟩)
      rintro M10 r11 ⟨e10, rfl⟩
      have e10 := e10.symm
      subst e10
      exact Cn.of (by decide) (Nat.le_of_ble_eq_true rfl) (bX11_ladle_0 hM ⟨fun _ => ⟨fun q => absurd n6 q, fun _ => ⟨rfl, hs⟩⟩, fun q => absurd h q⟩)
  · exact Cn.of (by decide) (Nat.le_of_ble_eq_true rfl) (bX10_ladle_0 hS ⟨fun q => absurd q h, fun _ => Cn.of (by decide) (Nat.le_of_ble_eq_true rfl) (bX11_ladle_0 hM ⟨fun q => absurd q h, fun _ => ⟨rfl, hs⟩⟩)⟩)
