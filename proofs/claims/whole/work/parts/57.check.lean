/-! the call check -/
/-- the row at q has become the row at p in its first 2950 places, and stays behind them -/
def rowX (f g : Nat → Int32) : Nat → Int32 := fun k => if k < 2950 then f k else g k
def AxQ (M : Mm) (p q : Nat) (M2 : Mm) : Prop := mI M2 q = rowX (mI M p) (mI M q) ∧ (∀ c, c ≠ q → mI M2 c = mI M c) ∧ mR M2 = mR M
theorem cl_setAsideX (G : Gl) (d : Nat) {X : Sh} {p q : Nat} {Q : Mm → Prop} (hK1 : xK X p = 11) (hN1 : xN X p = 2950) (hK2 : xK X q = 11) (hN2 : xN X q = 2950) (hpq : p ≠ q) (M0 : Mm) (hq : ∀ M2, AxQ M0 p q M2 → Q M2) :
    ∀ (n i : Nat) (M : Mm), i + n = 2950 → (∀ k, k < i → mI M q k = mI M0 p k) → (∀ k, i ≤ k → mI M q k = mI M0 q k) → (∀ c, c ≠ q → mI M c = mI M0 c) → mR M = mR M0 → Wv G m_X11_setAside d 2 [(1, .ref p), (2, .ref q), (3, .int (nI i))] [] X M Q
  | 0, i, M, h, h1, h1', h2, h3 => by
    have hi : i = 2950 := h
    refine bX11_setAside_2 hK1 hN1 hK2 hN2 ⟨fun _ => hq M ⟨?_, h2, h3⟩, fun r => absurd ((nI_leI (a := 2950) (by omega) (by omega)).mpr (by omega)) r⟩
    funext k
    unfold rowX
    by_cases hk : k < 2950
    · rw [if_pos hk, h1 k (by omega)]
    · rw [if_neg hk, h1' k (by omega)]
  | n + 1, i, M, h, h1, h1', h2, h3 => by
    refine bX11_setAside_2 hK1 hN1 hK2 hN2 ⟨fun r => ?_, fun _ => ⟨i, rfl, by omega, ?_⟩⟩
    · have := (nI_leI (a := 2950) (by omega) (by omega)).mp r
      omega
    · intro M5 e5
      rw [nI_1]
      refine cl_setAsideX G d hK1 hN1 hK2 hN2 hpq M0 hq n (i + 1) M5 (by omega) (fun k hk => ?_) (fun k hk => ?_) (fun c hc => ?_) ?_
      · rw [e5, mI_sI]
        by_cases e : k = i
        · subst e
          rw [up2_same, h2 p hpq]
        · rw [up2_k _ _ _ e]
          exact h1 k (by omega)
      · rw [e5, mI_sI, up2_k _ _ _ (by omega)]
        exact h1' k (by omega)
      · rw [e5, mI_sI, up2_off _ _ _ hc, h2 c hc]
      · rw [e5]
        exact h3
theorem cp_X11_setAsideX (G : Gl) (d : Nat) (X : Sh) (M : Mm) (m p q : Nat) (hS : Sh10 X m) (hK1 : xK X p = 11) (hN1 : xN X p = 2950) (hK2 : xK X q = 11) (hN2 : xN X q = 2950) (hpq : p ≠ q) : Cv G m_X11_setAside d [.ref m, .ref p, .ref q] X M (AxQ M p q) := by
  refine Cv.of (by decide) (Nat.le_of_ble_eq_true rfl) (bX11_setAside_0 hS hK1 hN1 hK2 hN2 ?_)
  exact cl_setAsideX G d hK1 hN1 hK2 hN2 hpq M (fun M2 h => h) 2950 0 M (by omega) (fun k hk => absurd hk (by omega)) (fun _ _ => rfl) (fun _ _ => rfl) rfl
/-- what check looks for at a place -/
def ckv (σ : Nat → Int32) (p : Nat) : Int32 := if p % 2 = 0 then s_hrs (p / 2 + 1) σ 9 else s_allBulk (s_hrs (p / 2 + 1) σ) (s_hrs (p / 2 + 1) σ 1).toNatClampNeg
theorem ckv_0 (σ : Nat → Int32) (i : Nat) : ckv σ (2 * i) = s_hrs (i + 1) σ 9 := by
  unfold ckv
  rw [if_pos (by omega), show 2 * i / 2 = i by omega]
theorem ckv_1 (σ : Nat → Int32) (i : Nat) : ckv σ (2 * i + 1) = s_allBulk (s_hrs (i + 1) σ) (s_hrs (i + 1) σ 1).toNatClampNeg := by
  unfold ckv
  rw [if_neg (by omega), show (2 * i + 1) / 2 = i by omega]
/-- the first of n places from p on that is not told as it is due -/
def ckA (W D : Nat → Int32) (w : Nat) : Nat → Nat → Nat
  | 0, p => p
  | n + 1, p => if p < w ∧ W p = D p then ckA W D w n (p + 1) else p
theorem ckA_yes {W D : Nat → Int32} {w n p : Nat} (h : p < w ∧ W p = D p) : ckA W D w (n + 1) p = ckA W D w n (p + 1) := if_pos h
theorem ckA_no {W D : Nat → Int32} {w n p : Nat} (h : ¬ (p < w ∧ W p = D p)) : ckA W D w (n + 1) p = p := if_neg h
def ckR (w n2 k : Nat) : Int32 := if k = w ∧ k = n2 then 0 else nI (1 + k)
theorem bX10_isTold_0 {G : Gl} {d : Nat} {X : Sh} {M : Mm} {Q : Mm → Int32 → Prop} {a : Nat} {x1 : Int32} {x2 : Int32} {x3 : Int32} (hS : Sh9 X a) (h : ((x3 ≤ x1 → Q M 0) ∧ (¬ (x3 ≤ x1) → ((60 ≤ x1 → Q M 0) ∧ (¬ (60 ≤ x1) → (∃ j3 : Nat, x1 = nI j3 ∧ j3 < 60 ∧ Q M (if (mI M (a + 265) j3) = x2 then 1 else 0))))))) : Wn G m_X10_isTold d 0 [(0, .ref a), (1, .int x1), (2, .int x2), (3, .int x3)] [] X M Q := by
  refine wp_iload_n 1 dX10_isTold_0 rfl rfl ?_
  refine wp_iload_n 3 dX10_isTold_1 rfl rfl ?_
  refine wp_icmp_ge (tgt := 25) dX10_isTold_2 (by decide) (fun c1 => ?_) (fun c1 => ?_)
  · replace h := h.1 c1
    refine wp_iconst (v := 0) dX10_isTold_25 rfl ?_
    exact wn_zret dX10_isTold_26 rfl (Or.inl rfl) h
  · replace h := h.2 c1
    refine wp_iload_n 1 dX10_isTold_5 rfl rfl ?_
    refine wp_bipush (v := 60) dX10_isTold_6 rfl ?_
    refine wp_icmp_ge (tgt := 25) dX10_isTold_8 (by decide) (fun c2 => ?_) (fun c2 => ?_)
    · replace h := h.1 c2
      refine wp_iconst (v := 0) dX10_isTold_25 rfl ?_
      exact wn_zret dX10_isTold_26 rfl (Or.inl rfl) h
    · replace h := h.2 c2
      refine wp_aload_n 0 dX10_isTold_11 rfl rfl ?_
      refine wp_getR dX10_isTold_12 fl_RX10_51 rfl (sh9_K hS) (sh9_F_waiting hS) ?_
      refine wp_iload_n 1 dX10_isTold_15 rfl rfl ?_
      obtain ⟨j3, o4, o5, h⟩ := h
      refine wp_iald (n := 60) dX10_isTold_16 (sh9_K_waiting hS) (sh9_N_waiting hS) (by decide) o4 o5 ?_
      refine wp_iload_n 2 dX10_isTold_17 rfl rfl ?_
      have K7 : Wp G m_X10_isTold d 0 0 0 0 26 [(0, .ref a), (1, .int x1), (2, .int x2), (3, .int x3)] [.int (if (mI M (a + 265) j3) = x2 then 1 else 0)] X M (fun X2 M2 v => X2 = X ∧ ∃ x, v = some (.int x) ∧ Q M2 x) := by
        exact wn_zret dX10_isTold_26 rfl (ite_01 _) h
      refine wp_icmp_ne (tgt := 25) dX10_isTold_18 (by decide) (fun c6 => ?_) (fun c6 => ?_)
      · refine wp_iconst (v := 0) dX10_isTold_25 rfl ?_
        rw [if_neg c6] at K7
        exact K7
      · refine wp_iconst (v := 1) dX10_isTold_21 rfl ?_
        refine wp_goto (tgt := 26) dX10_isTold_22 (by decide) ?_
        rw [if_pos c6] at K7
        exact K7
theorem bX10_check_0 {G : Gl} {d : Nat} {X : Sh} {M : Mm} {Q : Mm → Int32 → Prop} {a : Nat} {x1 : Int32} (hS : Sh9 X a) (h : (∀ v1 : Int32, v1 = (mI M a 8) → (∀ M2 : Mm, M2 = sI M a 8 0 → ((1 ≤ x1 ∧ x1 ≤ 30 → ((¬ ((mI M2 a 2) = 0) → (∃ q5 : Mm → Prop, Cv G m_X1_become d [.ref (a + 173), .ref ((a + 87) + 8)] X M2 q5 ∧ ∀ M7, q5 M7 → Wn G m_X10_check (d + 1) 49 [(0, .ref a), (1, .int x1), (2, .int v1), (3, .int 0)] [] X M7 Q)) ∧ ((mI M2 a 2) = 0 → Q M2 (-1000000002)))) ∧ (¬ (1 ≤ x1 ∧ x1 ≤ 30) → Q M2 (-1000000001)))))) : Wn G m_X10_check (d + 1) 0 [(0, .ref a), (1, .int x1)] [] X M Q := by
  refine wp_aload_n 0 dX10_check_0 rfl rfl ?_
  refine wp_getI dX10_check_1 fl_RX10_55 rfl (sh9_K hS) ?_
  refine wp_topi (fun v1 ev1 => ?_)
  replace h := h v1 ev1
  refine wp_istore_n (lo2 := [(2, .int _), (0, .ref _), (1, .int _)]) dX10_check_4 rfl (by decide) rfl ?_
  refine wp_aload_n 1 dX10_check_5 rfl rfl ?_
  refine wp_iconst (v := 0) dX10_check_6 rfl ?_
  refine wp_putI dX10_check_7 fp_RX10_55 rfl (sh9_K hS) ?_
  refine wp_nm (fun M2 eM2 => ?_)
  replace h := h M2 eM2
  refine wp_iload_n 2 dX10_check_10 rfl rfl ?_
  refine wp_iconst (v := 1) dX10_check_11 rfl ?_
  refine wp_bipush (v := 30) dX10_check_12 rfl ?_
  refine wp_csip dX10_check_14 ck_RX10_63 rfl (as := [.int x1, .int 1, .int 30]) rfl rfl (Nat.le_of_ble_eq_true rfl) (cp_X10_isWithin G d X M2 x1 1 30) ?_
  refine wp_ifB_ne (inferInstance) (tgt := 23) dX10_check_17 (by decide) (fun c3 => ?_) (fun c3 => ?_)
  · replace h := h.1 c3
    refine wp_aload_n 1 dX10_check_23 rfl rfl ?_
    refine wp_getI dX10_check_24 fl_RX10_19 rfl (sh9_K hS) ?_
    refine wp_if_ne (tgt := 33) dX10_check_27 (by decide) (fun c4 => ?_) (fun c4 => ?_)
    · replace h := h.1 c4
      refine wp_aload_n 1 dX10_check_33 rfl rfl ?_
      refine wp_getR dX10_check_34 fl_RX10_26 rfl (sh9_K hS) (sh9_F_trial hS) ?_
      refine wp_aload_n 1 dX10_check_37 rfl rfl ?_
      refine wp_getR dX10_check_38 fl_RX10_16 rfl (sh9_K hS) (sh9_F_image hS) ?_
      refine wp_getR dX10_check_41 fl_RX10_117 rfl (sh2_K (sh9_S_image hS)) (sh2_F_furnace (sh9_S_image hS)) ?_
      obtain ⟨q5, o6, h⟩ := h
      refine wp_cvv dX10_check_44 ck_RX10_196 (sh1_K (sh9_S_trial hS)) (as := [.ref ((a + 87) + 8)]) rfl rfl (Nat.le_of_ble_eq_true rfl) o6 (fun M7 o8 => ?_)
      replace h := h M7 o8
      refine wp_iconst (v := 0) dX10_check_47 rfl ?_
      refine wp_istore_n (lo2 := [(3, .int _), (2, .int _), (0, .ref _), (1, .int _)]) dX10_check_48 rfl (by decide) rfl ?_
      exact Wp.sub [2, 3, 1, 0] rfl h
    · replace h := h.2 c4
      refine wp_ldc dX10_check_30 kc_RX10_116 ?_
      exact wn_iret dX10_check_32 rfl h
  · replace h := h.2 c3
    refine wp_ldc dX10_check_20 kc_RX10_67 ?_
    exact wn_iret dX10_check_22 rfl h
theorem bX10_check_49 {G : Gl} {d : Nat} {X : Sh} {M : Mm} {Q : Mm → Int32 → Prop} {a : Nat} {x1 : Int32} {x2 : Int32} {x3 : Int32} (hS : Sh9 X a) (h : ((x1 ≤ x3 → Q M (if x2 = (2 * x1) then 0 else (1 + (2 * x1)))) ∧ (¬ (x1 ≤ x3) → (∃ q4 : Mm → Prop, Cv G m_X2_passHour d [.ref (a + 87), .ref (a + 173)] X M q4 ∧ ∀ M6, q4 M6 → (∃ q8 : Mm → Int32 → Prop, Cn G m_X10_isTold d [.ref a, .int ((2 * x3)), .int ((mI M6 (a + 173) 1)), .int x2] X M6 q8 ∧ ∀ M10 r11, q8 M10 r11 → ((¬ (r11 = 0) → (∃ q14 : Mm → Int32 → Prop, Cn G m_X1_allBulk d [.ref (a + 173)] X M10 q14 ∧ ∀ M16 r17, q14 M16 r17 → (∃ q19 : Mm → Int32 → Prop, Cn G m_X10_isTold d [.ref a, .int (((2 * x3) + 1)), .int r17, .int x2] X M16 q19 ∧ ∀ M21 r22, q19 M21 r22 → ((¬ (r22 = 0) → Wn G m_X10_check (d + 1) 49 [(0, .ref a), (1, .int x1), (2, .int x2), (3, .int (x3 + 1))] [] X M21 Q) ∧ (r22 = 0 → Q M21 (2 + (2 * x3))))))) ∧ (r11 = 0 → Q M10 (1 + (2 * x3))))))))) : Wn G m_X10_check (d + 1) 49 [(0, .ref a), (1, .int x1), (2, .int x2), (3, .int x3)] [] X M Q := by
  refine wp_iload_n 3 dX10_check_49 rfl rfl ?_
  refine wp_iload_n 1 dX10_check_50 rfl rfl ?_
  refine wp_icmp_ge (tgt := 121) dX10_check_51 (by decide) (fun c1 => ?_) (fun c1 => ?_)
  · replace h := h.1 c1
    refine wp_iload_n 2 dX10_check_121 rfl rfl ?_
    refine wp_iconst (v := 2) dX10_check_122 rfl ?_
    refine wp_iload_n 1 dX10_check_123 rfl rfl ?_
    refine wp_imul dX10_check_124 ?_
    have K3 : Wp G m_X10_check (d + 1) 0 0 0 0 137 [(0, .ref a), (1, .int x1), (2, .int x2), (3, .int x3)] [.int ((if x2 = (2 * x1) then 0 else (1 + (2 * x1))))] X M (fun X2 M2 v => X2 = X ∧ ∃ x, v = some (.int x) ∧ Q M2 x) := by
      exact wn_iret dX10_check_137 rfl h
    refine wp_icmp_ne (tgt := 132) dX10_check_125 (by decide) (fun c2 => ?_) (fun c2 => ?_)
    · refine wp_iconst (v := 1) dX10_check_132 rfl ?_
      refine wp_iconst (v := 2) dX10_check_133 rfl ?_
      refine wp_iload_n 1 dX10_check_134 rfl rfl ?_
      refine wp_imul dX10_check_135 ?_
      refine wp_iadd dX10_check_136 ?_
      rw [if_neg c2] at K3
      exact K3
    · refine wp_iconst (v := 0) dX10_check_128 rfl ?_
      refine wp_goto (tgt := 137) dX10_check_129 (by decide) ?_
      rw [if_pos c2] at K3
      exact K3
  · replace h := h.2 c1
    refine wp_aload_n 0 dX10_check_54 rfl rfl ?_
    refine wp_getR dX10_check_55 fl_RX10_16 rfl (sh9_K hS) (sh9_F_image hS) ?_
    refine wp_aload_n 0 dX10_check_58 rfl rfl ?_
    refine wp_getR dX10_check_59 fl_RX10_26 rfl (sh9_K hS) (sh9_F_trial hS) ?_
    obtain ⟨q4, o5, h⟩ := h
    refine wp_cvv dX10_check_62 ck_RX10_173 (sh2_K (sh9_S_image hS)) (as := [.ref (a + 173)]) rfl rfl (Nat.le_of_ble_eq_true rfl) o5 (fun M6 o7 => ?_)
    replace h := h M6 o7
    refine wp_aload_n 0 dX10_check_65 rfl rfl ?_
    refine wp_iconst (v := 2) dX10_check_66 rfl ?_
    refine wp_iload_n 3 dX10_check_67 rfl rfl ?_
    refine wp_imul dX10_check_68 ?_
    refine wp_aload_n 0 dX10_check_69 rfl rfl ?_
    refine wp_getR dX10_check_70 fl_RX10_26 rfl (sh9_K hS) (sh9_F_trial hS) ?_
    refine wp_getI dX10_check_73 fl_RX10_181 rfl (sh1_K (sh9_S_trial hS)) ?_
    refine wp_iload_n 2 dX10_check_76 rfl rfl ?_
    obtain ⟨q8, o9, h⟩ := h
    refine wp_cvi dX10_check_77 ck_RX10_337 (sh9_K hS) (as := [.int ((2 * x3)), .int ((mI M6 (a + 173) 1)), .int x2]) rfl rfl (Nat.le_of_ble_eq_true rfl) o9 (fun M10 r11 o12 => ?_)
    replace h := h M10 r11 o12
    refine wp_if_ne (tgt := 89) dX10_check_80 (by decide) (fun c13 => ?_) (fun c13 => ?_)
    · replace h := h.1 c13
      refine wp_aload_n 0 dX10_check_89 rfl rfl ?_
      refine wp_iconst (v := 2) dX10_check_90 rfl ?_
      refine wp_iload_n 3 dX10_check_91 rfl rfl ?_
      refine wp_imul dX10_check_92 ?_
      refine wp_iconst (v := 1) dX10_check_93 rfl ?_
      refine wp_iadd dX10_check_94 ?_
      refine wp_aload_n 0 dX10_check_95 rfl rfl ?_
      refine wp_getR dX10_check_96 fl_RX10_26 rfl (sh9_K hS) (sh9_F_trial hS) ?_
      obtain ⟨q14, o15, h⟩ := h
      refine wp_cvi dX10_check_99 ck_RX10_339 (sh1_K (sh9_S_trial hS)) (as := []) rfl rfl (Nat.le_of_ble_eq_true rfl) o15 (fun M16 r17 o18 => ?_)
      replace h := h M16 r17 o18
      refine wp_iload_n 2 dX10_check_102 rfl rfl ?_
      obtain ⟨q19, o20, h⟩ := h
      refine wp_cvi dX10_check_103 ck_RX10_337 (sh9_K hS) (as := [.int (((2 * x3) + 1)), .int r17, .int x2]) rfl rfl (Nat.le_of_ble_eq_true rfl) o20 (fun M21 r22 o23 => ?_)
      replace h := h M21 r22 o23
      refine wp_if_ne (tgt := 115) dX10_check_106 (by decide) (fun c24 => ?_) (fun c24 => ?_)
      · replace h := h.1 c24
        refine wp_iinc (v := x3 + 1) (lo2 := [(3, .int _), (0, .ref _), (1, .int _), (2, .int _)]) dX10_check_115 (q := 3) rfl rfl (by decide) rfl ?_
        refine wp_goto (tgt := 49) dX10_check_118 (by decide) ?_
        exact Wp.sub [1, 2, 3, 0] rfl h
      · replace h := h.2 c24
        refine wp_iconst (v := 2) dX10_check_109 rfl ?_
        refine wp_iconst (v := 2) dX10_check_110 rfl ?_
        refine wp_iload_n 3 dX10_check_111 rfl rfl ?_
        refine wp_imul dX10_check_112 ?_
        refine wp_iadd dX10_check_113 ?_
        exact wn_iret dX10_check_114 rfl h
    · replace h := h.2 c13
      refine wp_iconst (v := 1) dX10_check_83 rfl ?_
      refine wp_iconst (v := 2) dX10_check_84 rfl ?_
      refine wp_iload_n 3 dX10_check_85 rfl rfl ?_
      refine wp_imul dX10_check_86 ?_
      refine wp_iadd dX10_check_87 ?_
      exact wn_iret dX10_check_88 rfl h
theorem bX11_check_0 {G : Gl} {d : Nat} {X : Sh} {M : Mm} {Q : Mm → Int32 → Prop} {a : Nat} {x1 : Int32} (hS : Sh10 X a) (h : (∀ v1 : Int32, v1 = (mI M a 34) → (∀ M2 : Mm, M2 = sI M a 34 0 → ((1 ≤ x1 ∧ x1 ≤ 30 → ((¬ ((mI M2 a 3) = 0) → (∃ q5 : Mm → Prop, Cv G m_X11_setAside d [.ref a, .ref (a + 1), .ref (a + 3)] X M2 q5 ∧ ∀ M7, q5 M7 → (∃ q9 : Mm → Prop, Cv G m_X11_setAside d [.ref a, .ref (a + 2), .ref (a + 1)] X M7 q9 ∧ ∀ M11, q9 M11 → Wn G m_X11_check (d + 1) 61 [(0, .ref a), (1, .int x1), (2, .int v1), (3, .int 0)] [] X M11 Q))) ∧ ((mI M2 a 3) = 0 → Q M2 (-1000000002)))) ∧ (¬ (1 ≤ x1 ∧ x1 ≤ 30) → Q M2 (-1000000001)))))) : Wn G m_X11_check (d + 1) 0 [(0, .ref a), (1, .int x1)] [] X M Q := by
  refine wp_aload_n 0 dX11_check_0 rfl rfl ?_
  refine wp_getI dX11_check_1 fl_RX11_335 rfl (sh10_K hS) ?_
  refine wp_topi (fun v1 ev1 => ?_)
  replace h := h v1 ev1
  refine wp_istore_n (lo2 := [(2, .int _), (0, .ref _), (1, .int _)]) dX11_check_4 rfl (by decide) rfl ?_
  refine wp_aload_n 1 dX11_check_5 rfl rfl ?_
  refine wp_iconst (v := 0) dX11_check_6 rfl ?_
  refine wp_putI dX11_check_7 fp_RX11_335 rfl (sh10_K hS) ?_
  refine wp_nm (fun M2 eM2 => ?_)
  replace h := h M2 eM2
  refine wp_iload_n 2 dX11_check_10 rfl rfl ?_
  refine wp_i2l dX11_check_11 ?_
  refine wp_lconst (v := 1) dX11_check_12 rfl ?_
  refine wp_ldc2 dX11_check_13 kc_RX11_338 ?_
  refine wp_csip dX11_check_16 ck_RX11_78 rfl (as := [.long x1.toInt64, .long 1, .long 30]) rfl rfl (Nat.le_of_ble_eq_true rfl) (cp_X11_isIn G d X M2 x1 1 30 (by decide) (by decide)) ?_
  refine wp_ifB_ne (inferInstance) (tgt := 25) dX11_check_19 (by decide) (fun c3 => ?_) (fun c3 => ?_)
  · replace h := h.1 c3
    refine wp_aload_n 1 dX11_check_25 rfl rfl ?_
    refine wp_getI dX11_check_26 fl_RX11_340 rfl (sh10_K hS) ?_
    refine wp_if_ne (tgt := 35) dX11_check_29 (by decide) (fun c4 => ?_) (fun c4 => ?_)
    · replace h := h.1 c4
      refine wp_aload_n 1 dX11_check_35 rfl rfl ?_
      refine wp_aload_n 1 dX11_check_36 rfl rfl ?_
      refine wp_getR dX11_check_37 fl_RX11_7 rfl (sh10_K hS) (sh10_F_s hS) ?_
      refine wp_aload_n 1 dX11_check_40 rfl rfl ?_
      refine wp_getR dX11_check_41 fl_RX11_16 rfl (sh10_K hS) (sh10_F_aside hS) ?_
      obtain ⟨q5, o6, h⟩ := h
      refine wp_cvv dX11_check_44 ck_RX11_212 (sh10_K hS) (as := [.ref (a + 1), .ref (a + 3)]) rfl rfl (Nat.le_of_ble_eq_true rfl) o6 (fun M7 o8 => ?_)
      replace h := h M7 o8
      refine wp_aload_n 1 dX11_check_47 rfl rfl ?_
      refine wp_aload_n 1 dX11_check_48 rfl rfl ?_
      refine wp_getR dX11_check_49 fl_RX11_13 rfl (sh10_K hS) (sh10_F_image hS) ?_
      refine wp_aload_n 1 dX11_check_52 rfl rfl ?_
      refine wp_getR dX11_check_53 fl_RX11_7 rfl (sh10_K hS) (sh10_F_s hS) ?_
      obtain ⟨q9, o10, h⟩ := h
      refine wp_cvv dX11_check_56 ck_RX11_212 (sh10_K hS) (as := [.ref (a + 2), .ref (a + 1)]) rfl rfl (Nat.le_of_ble_eq_true rfl) o10 (fun M11 o12 => ?_)
      replace h := h M11 o12
      refine wp_iconst (v := 0) dX11_check_59 rfl ?_
      refine wp_istore_n (lo2 := [(3, .int _), (2, .int _), (0, .ref _), (1, .int _)]) dX11_check_60 rfl (by decide) rfl ?_
      exact Wp.sub [2, 3, 1, 0] rfl h
    · replace h := h.2 c4
      refine wp_ldc dX11_check_32 kc_RX11_153 ?_
      exact wn_iret dX11_check_34 rfl h
  · replace h := h.2 c3
    refine wp_ldc dX11_check_22 kc_RX11_100 ?_
    exact wn_iret dX11_check_24 rfl h
theorem bX11_check_61 {G : Gl} {d : Nat} {X : Sh} {M : Mm} {Q : Mm → Int32 → Prop} {a : Nat} {x1 : Int32} {x2 : Int32} {x3 : Int32} (hS : Sh10 X a) (h : ((x1 ≤ x3 → (∃ q2 : Mm → Prop, Cv G m_X11_setAside d [.ref a, .ref (a + 3), .ref (a + 1)] X M q2 ∧ ∀ M4, q2 M4 → Wn G m_X11_check (d + 1) 119 [(0, .ref a), (1, .int x1), (2, .int x2), (3, .int 0)] [] X M4 Q)) ∧ (¬ (x1 ≤ x3) → (∃ q6 : Mm → Prop, Cv G m_X11_oneHour d [.ref a] X M q6 ∧ ∀ M8, q6 M8 → (∃ j10 : Nat, (2 * x3) = nI j10 ∧ j10 < 60 ∧ (∀ M13 : Mm, M13 = sI M8 (a + 22) j10 (mI M8 (a + 1) 9) → (∃ q14 : Mm → Int32 → Prop, Cn G m_X11_allBulk d [.ref a] X M13 q14 ∧ ∀ M16 r17, q14 M16 r17 → (∃ j19 : Nat, ((2 * x3) + 1) = nI j19 ∧ j19 < 60 ∧ (∀ M22 : Mm, M22 = sI M16 (a + 22) j19 r17 → Wn G m_X11_check (d + 1) 61 [(0, .ref a), (1, .int x1), (2, .int x2), (3, .int (x3 + 1))] [] X M22 Q))))))))) : Wn G m_X11_check (d + 1) 61 [(0, .ref a), (1, .int x1), (2, .int x2), (3, .int x3)] [] X M Q := by
  refine wp_iload_n 3 dX11_check_61 rfl rfl ?_
  refine wp_iload_n 1 dX11_check_62 rfl rfl ?_
  refine wp_icmp_ge (tgt := 105) dX11_check_63 (by decide) (fun c1 => ?_) (fun c1 => ?_)
  · replace h := h.1 c1
    refine wp_aload_n 0 dX11_check_105 rfl rfl ?_
    refine wp_aload_n 0 dX11_check_106 rfl rfl ?_
    refine wp_getR dX11_check_107 fl_RX11_16 rfl (sh10_K hS) (sh10_F_aside hS) ?_
    refine wp_aload_n 0 dX11_check_110 rfl rfl ?_
    refine wp_getR dX11_check_111 fl_RX11_7 rfl (sh10_K hS) (sh10_F_s hS) ?_
    obtain ⟨q2, o3, h⟩ := h
    refine wp_cvv dX11_check_114 ck_RX11_212 (sh10_K hS) (as := [.ref (a + 3), .ref (a + 1)]) rfl rfl (Nat.le_of_ble_eq_true rfl) o3 (fun M4 o5 => ?_)
    replace h := h M4 o5
    refine wp_iconst (v := 0) dX11_check_117 rfl ?_
    refine wp_istore_n (lo2 := [(3, .int _), (0, .ref _), (1, .int _), (2, .int _)]) dX11_check_118 rfl (by decide) rfl ?_
    exact Wp.sub [1, 2, 3, 0] rfl h
  · replace h := h.2 c1
    refine wp_aload_n 0 dX11_check_66 rfl rfl ?_
    obtain ⟨q6, o7, h⟩ := h
    refine wp_cvv dX11_check_67 ck_RX11_203 (sh10_K hS) (as := []) rfl rfl (Nat.le_of_ble_eq_true rfl) o7 (fun M8 o9 => ?_)
    replace h := h M8 o9
    refine wp_aload_n 0 dX11_check_70 rfl rfl ?_
    refine wp_getR dX11_check_71 fl_RX11_74 rfl (sh10_K hS) (sh10_F_row hS) ?_
    refine wp_iconst (v := 2) dX11_check_74 rfl ?_
    refine wp_iload_n 3 dX11_check_75 rfl rfl ?_
    refine wp_imul dX11_check_76 ?_
    refine wp_aload_n 0 dX11_check_77 rfl rfl ?_
    refine wp_getR dX11_check_78 fl_RX11_7 rfl (sh10_K hS) (sh10_F_s hS) ?_
    refine wp_bipush (v := 9) dX11_check_81 rfl ?_
    refine wp_iald (n := 2950) dX11_check_83 (sh10_K_s hS) (sh10_N_s hS) (by decide) rfl (by decide) ?_
    obtain ⟨j10, o11, o12, h⟩ := h
    refine wp_iast (n := 60) dX11_check_84 (sh10_K_row hS) (sh10_N_row hS) (by decide) o11 o12 ?_
    refine wp_nm (fun M13 eM13 => ?_)
    replace h := h M13 eM13
    refine wp_aload_n 0 dX11_check_85 rfl rfl ?_
    refine wp_getR dX11_check_86 fl_RX11_74 rfl (sh10_K hS) (sh10_F_row hS) ?_
    refine wp_iconst (v := 2) dX11_check_89 rfl ?_
    refine wp_iload_n 3 dX11_check_90 rfl rfl ?_
    refine wp_imul dX11_check_91 ?_
    refine wp_iconst (v := 1) dX11_check_92 rfl ?_
    refine wp_iadd dX11_check_93 ?_
    refine wp_aload_n 0 dX11_check_94 rfl rfl ?_
    obtain ⟨q14, o15, h⟩ := h
    refine wp_cvi dX11_check_95 ck_RX11_344 (sh10_K hS) (as := []) rfl rfl (Nat.le_of_ble_eq_true rfl) o15 (fun M16 r17 o18 => ?_)
    replace h := h M16 r17 o18
    obtain ⟨j19, o20, o21, h⟩ := h
    refine wp_iast (n := 60) dX11_check_98 (sh10_K_row hS) (sh10_N_row hS) (by decide) o20 o21 ?_
    refine wp_nm (fun M22 eM22 => ?_)
    replace h := h M22 eM22
    refine wp_iinc (v := x3 + 1) (lo2 := [(3, .int _), (0, .ref _), (1, .int _), (2, .int _)]) dX11_check_99 (q := 3) rfl rfl (by decide) rfl ?_
    refine wp_goto (tgt := 61) dX11_check_102 (by decide) ?_
    exact Wp.sub [1, 2, 3, 0] rfl h
theorem bX11_check_119 {G : Gl} {d : Nat} {X : Sh} {M : Mm} {Q : Mm → Int32 → Prop} {a : Nat} {x1 : Int32} {x2 : Int32} {x3 : Int32} (hS : Sh10 X a) (h : ((x2 ≤ x3 → Q M (if x3 = x2 then (if x3 = (2 * x1) then 0 else (1 + x3)) else (1 + x3))) ∧ (¬ (x2 ≤ x3) → (((2 * x1) ≤ x3 → Q M (if x3 = x2 then (if x3 = (2 * x1) then 0 else (1 + x3)) else (1 + x3))) ∧ (¬ ((2 * x1) ≤ x3) → (∃ j9 : Nat, x3 = nI j9 ∧ j9 < 60 ∧ ((¬ ((mI M (a + 21) j9) = (mI M (a + 22) j9)) → Q M (if x3 = x2 then (if x3 = (2 * x1) then 0 else (1 + x3)) else (1 + x3))) ∧ ((mI M (a + 21) j9) = (mI M (a + 22) j9) → Wn G m_X11_check (d + 1) 119 [(0, .ref a), (1, .int x1), (2, .int x2), (3, .int (x3 + 1))] [] X M Q)))))))) : Wn G m_X11_check (d + 1) 119 [(0, .ref a), (1, .int x1), (2, .int x2), (3, .int x3)] [] X M Q := by
  refine wp_iload_n 3 dX11_check_119 rfl rfl ?_
  refine wp_iload_n 2 dX11_check_120 rfl rfl ?_
  refine wp_icmp_ge (tgt := 152) dX11_check_121 (by decide) (fun c1 => ?_) (fun c1 => ?_)
  · replace h := h.1 c1
    refine wp_iload_n 3 dX11_check_152 rfl rfl ?_
    refine wp_iload_n 2 dX11_check_153 rfl rfl ?_
    have K4 : Wp G m_X11_check (d + 1) 0 0 0 0 171 [(0, .ref a), (1, .int x1), (2, .int x2), (3, .int x3)] [.int ((if x3 = x2 then (if x3 = (2 * x1) then 0 else (1 + x3)) else (1 + x3)))] X M (fun X2 M2 v => X2 = X ∧ ∃ x, v = some (.int x) ∧ Q M2 x) := by
      exact wn_iret dX11_check_171 rfl h
    refine wp_icmp_ne (tgt := 168) dX11_check_154 (by decide) (fun c2 => ?_) (fun c2 => ?_)
    · refine wp_iconst (v := 1) dX11_check_168 rfl ?_
      refine wp_iload_n 3 dX11_check_169 rfl rfl ?_
      refine wp_iadd dX11_check_170 ?_
      rw [if_neg c2] at K4
      exact K4
    · refine wp_iload_n 3 dX11_check_157 rfl rfl ?_
      refine wp_iconst (v := 2) dX11_check_158 rfl ?_
      refine wp_iload_n 1 dX11_check_159 rfl rfl ?_
      refine wp_imul dX11_check_160 ?_
      refine wp_icmp_ne (tgt := 168) dX11_check_161 (by decide) (fun c3 => ?_) (fun c3 => ?_)
      · refine wp_iconst (v := 1) dX11_check_168 rfl ?_
        refine wp_iload_n 3 dX11_check_169 rfl rfl ?_
        refine wp_iadd dX11_check_170 ?_
        rw [if_pos c2] at K4
        rw [if_neg c3] at K4
        exact K4
      · refine wp_iconst (v := 0) dX11_check_164 rfl ?_
        refine wp_goto (tgt := 171) dX11_check_165 (by decide) ?_
        rw [if_pos c2] at K4
        rw [if_pos c3] at K4
        exact K4
  · replace h := h.2 c1
    refine wp_iload_n 3 dX11_check_124 rfl rfl ?_
    refine wp_iconst (v := 2) dX11_check_125 rfl ?_
    refine wp_iload_n 1 dX11_check_126 rfl rfl ?_
    refine wp_imul dX11_check_127 ?_
    refine wp_icmp_ge (tgt := 152) dX11_check_128 (by decide) (fun c5 => ?_) (fun c5 => ?_)
    · replace h := h.1 c5
      refine wp_iload_n 3 dX11_check_152 rfl rfl ?_
      refine wp_iload_n 2 dX11_check_153 rfl rfl ?_
      have K8 : Wp G m_X11_check (d + 1) 0 0 0 0 171 [(0, .ref a), (1, .int x1), (2, .int x2), (3, .int x3)] [.int ((if x3 = x2 then (if x3 = (2 * x1) then 0 else (1 + x3)) else (1 + x3)))] X M (fun X2 M2 v => X2 = X ∧ ∃ x, v = some (.int x) ∧ Q M2 x) := by
        exact wn_iret dX11_check_171 rfl h
      refine wp_icmp_ne (tgt := 168) dX11_check_154 (by decide) (fun c6 => ?_) (fun c6 => ?_)
      · refine wp_iconst (v := 1) dX11_check_168 rfl ?_
        refine wp_iload_n 3 dX11_check_169 rfl rfl ?_
        refine wp_iadd dX11_check_170 ?_
        rw [if_neg c6] at K8
        exact K8
      · refine wp_iload_n 3 dX11_check_157 rfl rfl ?_
        refine wp_iconst (v := 2) dX11_check_158 rfl ?_
        refine wp_iload_n 1 dX11_check_159 rfl rfl ?_
        refine wp_imul dX11_check_160 ?_
        refine wp_icmp_ne (tgt := 168) dX11_check_161 (by decide) (fun c7 => ?_) (fun c7 => ?_)
        · refine wp_iconst (v := 1) dX11_check_168 rfl ?_
          refine wp_iload_n 3 dX11_check_169 rfl rfl ?_
          refine wp_iadd dX11_check_170 ?_
          rw [if_pos c6] at K8
          rw [if_neg c7] at K8
          exact K8
        · refine wp_iconst (v := 0) dX11_check_164 rfl ?_
          refine wp_goto (tgt := 171) dX11_check_165 (by decide) ?_
          rw [if_pos c6] at K8
          rw [if_pos c7] at K8
          exact K8
    · replace h := h.2 c5
      refine wp_aload_n 0 dX11_check_131 rfl rfl ?_
      refine wp_getR dX11_check_132 fl_RX11_71 rfl (sh10_K hS) (sh10_F_waits hS) ?_
      refine wp_iload_n 3 dX11_check_135 rfl rfl ?_
      obtain ⟨j9, o10, o11, h⟩ := h
      refine wp_iald (n := 60) dX11_check_136 (sh10_K_waits hS) (sh10_N_waits hS) (by decide) o10 o11 ?_
      refine wp_aload_n 0 dX11_check_137 rfl rfl ?_
      refine wp_getR dX11_check_138 fl_RX11_74 rfl (sh10_K hS) (sh10_F_row hS) ?_
      refine wp_iload_n 3 dX11_check_141 rfl rfl ?_
      refine wp_iald (n := 60) dX11_check_142 (sh10_K_row hS) (sh10_N_row hS) (by decide) o10 o11 ?_
      refine wp_icmp_ne (tgt := 152) dX11_check_143 (by decide) (fun c12 => ?_) (fun c12 => ?_)
      · replace h := h.1 c12
        refine wp_iload_n 3 dX11_check_152 rfl rfl ?_
        refine wp_iload_n 2 dX11_check_153 rfl rfl ?_
        have K15 : Wp G m_X11_check (d + 1) 0 0 0 0 171 [(0, .ref a), (1, .int x1), (2, .int x2), (3, .int x3)] [.int ((if x3 = x2 then (if x3 = (2 * x1) then 0 else (1 + x3)) else (1 + x3)))] X M (fun X2 M2 v => X2 = X ∧ ∃ x, v = some (.int x) ∧ Q M2 x) := by
          exact wn_iret dX11_check_171 rfl h
        refine wp_icmp_ne (tgt := 168) dX11_check_154 (by decide) (fun c13 => ?_) (fun c13 => ?_)
        · refine wp_iconst (v := 1) dX11_check_168 rfl ?_
          refine wp_iload_n 3 dX11_check_169 rfl rfl ?_
          refine wp_iadd dX11_check_170 ?_
          rw [if_neg c13] at K15
          exact K15
        · refine wp_iload_n 3 dX11_check_157 rfl rfl ?_
          refine wp_iconst (v := 2) dX11_check_158 rfl ?_
          refine wp_iload_n 1 dX11_check_159 rfl rfl ?_
          refine wp_imul dX11_check_160 ?_
          refine wp_icmp_ne (tgt := 168) dX11_check_161 (by decide) (fun c14 => ?_) (fun c14 => ?_)
          · refine wp_iconst (v := 1) dX11_check_168 rfl ?_
            refine wp_iload_n 3 dX11_check_169 rfl rfl ?_
            refine wp_iadd dX11_check_170 ?_
            rw [if_pos c13] at K15
            rw [if_neg c14] at K15
            exact K15
          · refine wp_iconst (v := 0) dX11_check_164 rfl ?_
            refine wp_goto (tgt := 171) dX11_check_165 (by decide) ?_
            rw [if_pos c13] at K15
            rw [if_pos c14] at K15
            exact K15
      · replace h := h.2 c12
        refine wp_iinc (v := x3 + 1) (lo2 := [(3, .int _), (0, .ref _), (1, .int _), (2, .int _)]) dX11_check_146 (q := 3) rfl rfl (by decide) rfl ?_
        refine wp_goto (tgt := 119) dX11_check_149 (by decide) ?_
        exact Wp.sub [1, 2, 3, 0] rfl h
theorem cp_X10_isTold (G : Gl) (d : Nat) (X : Sh) (M : Mm) (b p w : Nat) (due : Int32) (hS : Sh9 X b) (hp : p < 60) (hw : w ≤ 60) : Cn G m_X10_isTold d [.ref b, .int (nI p), .int due, .int (nI w)] X M (fun M2 r => M2 = M ∧ (r = 0 ↔ ¬ (p < w ∧ mI M (b + 265) p = due))) := by
  refine Cn.of (by decide) (Nat.le_of_ble_eq_true rfl) (bX10_isTold_0 hS ⟨fun q => ⟨rfl, fun _ r => ?_, fun _ => rfl⟩, fun q => ⟨fun q2 => ?_, fun _ => ⟨p, rfl, hp, rfl, ?_⟩⟩⟩)
  · have := (nI_leI (by omega) (by omega)).mp q
    omega
  · have := (nI_leI (a := 60) (by omega) (by omega)).mp q2
    omega
  · have lt : p < w := Nat.lt_of_not_le (fun z => q ((nI_leI (by omega) (by omega)).mpr z))
    by_cases e : mI M (b + 265) p = due
    · rw [if_pos e]
      exact ⟨fun z => absurd z (by decide), fun z => absurd ⟨lt, e⟩ z⟩
    · rw [if_neg e]
      exact ⟨fun _ z => e z.2, fun _ => rfl⟩
theorem dbl (n : Nat) : (2 : Int32) * nI n = nI (2 * n) := by
  rw [n_lit, pk_mul]
theorem cl_X10_check (G : Gl) (d : Nat) (hd : 5 ≤ d) {X : Sh} {b N w nx : Nat} {τ W : Nat → Int32} {Q : Mm → Int32 → Prop} (hS : Sh9 X b) (hN : N ≤ 30) (hw : w ≤ 60) (M0 : Mm) (hW : mI M0 (b + 265) = W) (hq : ∀ M2, OffX (b + 87) (b + 173) M0 M2 → (∃ la, LPm M2 (b + 173) la) → Q M2 (ckR w (2 * N) (ckA W (ckv τ) w (2 * N) 0))) :
    ∀ (n i nl : Nat) (la : Nat → Nat) (M : Mm), i + n = N → HTf M (b + 87) (b + 173) nl nx (s_hrs i τ) la → OffX (b + 87) (b + 173) M0 M → ckA W (ckv τ) w (2 * N) 0 = ckA W (ckv τ) w (2 * n) (2 * i) → Wn G m_X10_check (d + 1) 49 [(0, .ref b), (1, .int (nI N)), (2, .int (nI w)), (3, .int (nI i))] [] X M Q
  | 0, i, nl, la, M, h, hs, hO, hA => by
    have hi : i = N := h
    subst hi
    refine bX10_check_49 hS ⟨fun _ => ?_, fun q => absurd (Int32.le_refl _) q⟩
    have hA2 : ckA W (ckv τ) w (2 * i) 0 = 2 * i := hA
    have := hq M hO ⟨la, hs.2.2.1.1⟩
    rw [hA2] at this
    rw [dbl]
    have e : (if nI w = nI (2 * i) then (0 : Int32) else 1 + nI (2 * i)) = ckR w (2 * i) (2 * i) := by
      unfold ckR
      by_cases z : w = 2 * i
      · rw [if_pos (congrArg nI z), if_pos ⟨z.symm, rfl⟩]
      · rw [if_neg (fun q => z ((nI_inj (by omega) (by omega)).mp q)), if_neg (fun q => z q.1.symm), n_lit, nI_add]
    rw [e]
    exact this
  | n + 1, i, nl, la, M, h, hs, hO, hA => by
    obtain ⟨hP, hT, hF, h7, g, hg, eg⟩ := id hs
    obtain ⟨wf, w2, w3, w4, w5, wt⟩ := id hP
    have hA3 : ckA W (ckv τ) w (2 * N) 0 = ckA W (ckv τ) w (2 * n + 1 + 1) (2 * i) := hA
    refine bX10_check_49 hS ⟨fun q => ?_, fun _ => ?_⟩
    · have := (nI_leI (by omega) (by omega)).mp q
      omega
    refine ⟨_, cp_X2_passHour G d hd X M (b + 87) (b + 173) nl nx g (s_hrs i τ) la 0 (sh9_S_image hS) (sh9_S_trial hS) (by omega) w3 w5 hT hF wf h7 eg hg, ?_⟩
    rintro M6 ⟨M1, o1, h6⟩
    obtain ⟨to, la2, r1, r2, r3, _, _⟩ := hs.hour (by omega) o1 h6
    rw [← s_hr_eq w2 w3 w4 w5 0] at r2
    have r2 : HTf M6 (b + 87) (b + 173) to nx (s_hrs (i + 1) τ) la2 := r2
    have O6 := hO.trans r3
    have w6 : mI M6 (b + 265) = W := by rw [O6.1 _ (by omega) (by omega) (by omega), hW]
    rw [dbl]
    refine ⟨_, cp_X10_isTold G d X M6 b (2 * i) w _ hS (by omega) hw, ?_⟩
    rintro M10 r11 ⟨e, e11⟩
    have e := e.symm
    subst e
    have d1 : mI M6 (b + 173) 1 = ckv τ (2 * i) := by
      rw [ckv_0]
      exact r2.2.2.1.2.1.2.1
    rw [w6, d1] at e11
    have nope : ∀ p, p < 2 * N → ckA W (ckv τ) w (2 * N) 0 = p → ∀ v, v = nI (1 + p) → Q M6 v := fun p hp hk v hv => by
      have := hq M6 O6 ⟨la2, r2.2.2.1.1⟩
      rw [hk] at this
      have e : ckR w (2 * N) p = nI (1 + p) := if_neg (fun z => by omega)
      rw [e] at this
      rw [hv]
      exact this
    refine ⟨fun q => ?_, fun q => ?_⟩
    · have y1 : 2 * i < w ∧ W (2 * i) = ckv τ (2 * i) := Decidable.byContradiction (fun z => q (e11.mpr z))
      rw [ckA_yes y1] at hA3
      refine ⟨_, cp_X1_allBulk G d X M6 (b + 173) (sh9_S_trial hS), ?_⟩
      rintro M16 r17 ⟨e, e17⟩
      have e := e.symm
      subst e
      have d2 : r17 = ckv τ (2 * i + 1) := by
        rw [ckv_1, e17]
        have e1 : (s_hrs (i + 1) τ 1).toNatClampNeg = to := by
          rw [r2.1.2.1, nI_clamp (by omega)]
        rw [e1]
        exact s_sum_cong (fun r hr => r2.2.2.1.2.1.2.2.2.2.2 r hr)
      rw [show nI (2 * i) + 1 = nI (2 * i + 1) from nI_1 _]
      refine ⟨_, cp_X10_isTold G d X M6 b (2 * i + 1) w _ hS (by omega) hw, ?_⟩
      rintro M21 r22 ⟨e, e22⟩
      have e := e.symm
      subst e
      rw [w6, d2] at e22
      refine ⟨fun q2 => ?_, fun q2 => ?_⟩
      · have y2 : 2 * i + 1 < w ∧ W (2 * i + 1) = ckv τ (2 * i + 1) := Decidable.byContradiction (fun z => q2 (e22.mpr z))
        rw [ckA_yes y2] at hA3
        rw [nI_1]
        exact cl_X10_check G d hd hS hN hw M0 hW hq n (i + 1) to la2 M6 (by omega) r2 O6 hA3
      · rw [ckA_no (e22.mp q2)] at hA3
        exact nope (2 * i + 1) (by omega) hA3 _ (by
          show nI 2 + nI (2 * i) = _
          rw [nI_add]
          exact congrArg nI (by omega))
    · rw [ckA_no (e11.mp q)] at hA3
      exact nope (2 * i) (by omega) hA3 _ (by rw [n_lit, nI_add])
/-- the reference's frame in check -/
def OffK (m : Nat) (M M2 : Mm) : Prop := (∀ c, c ≠ m → c ≠ m + 1 → c ≠ m + 13 → c ≠ m + 18 → c ≠ m + 19 → c ≠ m + 22 → mI M2 c = mI M c) ∧ (∀ k, k ≠ 17 → mI M2 m k = mI M m k) ∧ mR M2 = mR M
theorem ck_end {W D : Nat → Int32} {w N k : Nat} (hw : w ≤ 60) (hN : N ≤ 30) (hk : k ≤ 60) : (if nI k = nI w then (if nI k = nI (2 * N) then (0 : Int32) else 1 + nI k) else 1 + nI k) = ckR w (2 * N) k := by
  unfold ckR
  by_cases z : k = w
  · rw [if_pos (congrArg nI z)]
    by_cases z2 : k = 2 * N
    · rw [if_pos (congrArg nI z2), if_pos ⟨z, z2⟩]
    · rw [if_neg (fun q => z2 ((nI_inj (by omega) (by omega)).mp q)), if_neg (fun q => z2 q.2), n_lit, nI_add]
  · rw [if_neg (fun q => z ((nI_inj (by omega) (by omega)).mp q)), if_neg (fun q => z q.1), n_lit, nI_add]
theorem cl_X11_check_119 (G : Gl) (d : Nat) {X : Sh} {m N w : Nat} {W D : Nat → Int32} {Q : Mm → Int32 → Prop} (hM : Sh10 X m) (hN : N ≤ 30) (hw : w ≤ 60) {M : Mm} (hW : ∀ p, p < w → mI M (m + 21) p = W p) (hD : ∀ p, p < 2 * N → mI M (m + 22) p = D p) :
    ∀ (n k : Nat), k + n = 2 * N → Q M (ckR w (2 * N) (ckA W D w n k)) → Wn G m_X11_check (d + 1) 119 [(0, .ref m), (1, .int (nI N)), (2, .int (nI w)), (3, .int (nI k))] [] X M Q
  | 0, k, h, hq => by
    have hk : k = 2 * N := h
    have hq2 : Q M (ckR w (2 * N) k) := hq
    rw [← ck_end (W := W) (D := D) hw hN (by omega)] at hq2
    have l : nI (2 * N) ≤ nI k := by
      rw [hk]
      exact Int32.le_refl _
    refine bX11_check_119 hM ?_
    rw [dbl]
    exact ⟨fun _ => hq2, fun _ => ⟨fun _ => hq2, fun q => absurd l q⟩⟩
  | n + 1, k, h, hq => by
    refine bX11_check_119 hM ?_
    rw [dbl]
    have l : ¬ nI (2 * N) ≤ nI k := fun q => by
      have := (nI_leI (by omega) (by omega)).mp q
      omega
    by_cases hkw : k < w
    · have l2 : ¬ nI w ≤ nI k := fun q => by
        have := (nI_leI (by omega) (by omega)).mp q
        omega
      refine ⟨fun q => absurd q l2, fun _ => ⟨fun q => absurd q l, fun _ => ⟨k, rfl, by omega, fun q => ?_, fun q => ?_⟩⟩⟩
      · rw [hW k hkw, hD k (by omega)] at q
        rw [ckA_no (fun z => q z.2)] at hq
        rw [ck_end (W := W) (D := D) hw hN (by omega)]
        exact hq
      · rw [hW k hkw, hD k (by omega)] at q
        rw [ckA_yes ⟨hkw, q⟩] at hq
        rw [nI_1]
        exact cl_X11_check_119 G d hM hN hw hW hD n (k + 1) (by omega) hq
    · rw [ckA_no (fun z => hkw z.1)] at hq
      rw [ck_end (W := W) (D := D) hw hN (by omega)]
      refine ⟨fun _ => hq, fun q => absurd ((nI_leI (by omega) (by omega)).mpr (by omega)) q⟩
theorem cl_X11_check_61 (G : Gl) (d : Nat) (hd : 6 ≤ d) {X : Sh} {m N w nl nx : Nat} {τ W : Nat → Int32} {Q : Mm → Int32 → Prop} (hM : Sh10 X m) (hN : N ≤ 30) (hw : w ≤ 60) (hP : PH τ nl nx) (M0 : Mm) (hW : ∀ p, p < w → mI M0 (m + 21) p = W p) (hq : ∀ M2, OffK m M0 M2 → (∀ k, k < 2950 → mI M2 (m + 1) k = mI M0 (m + 3) k) → Q M2 (ckR w (2 * N) (ckA W (ckv τ) w (2 * N) 0))) :
    ∀ (n i : Nat) (M : Mm), i + n = N → mI M (m + 1) = s_hrs i τ → (∀ p, p < 2 * i → mI M (m + 22) p = ckv τ p) → OffK m M0 M → Wn G m_X11_check (d + 1) 61 [(0, .ref m), (1, .int (nI N)), (2, .int (nI w)), (3, .int (nI i))] [] X M Q
  | 0, i, M, h, h1, hD, hO => by
    have hi : i = N := h
    subst hi
    refine bX11_check_61 hM ⟨fun _ => ⟨_, cp_X11_setAside G d X M m (m + 3) (m + 1) hM (sh10_K_aside hM) (sh10_N_aside hM) (sh10_K_s hM) (sh10_N_s hM) (by omega), ?_⟩, fun q => absurd (Int32.le_refl _) q⟩
    rintro M4 ⟨a4, p4, q4⟩
    refine cl_X11_check_119 G d (W := W) (D := ckv τ) hM hN hw (fun p hp => ?_) (fun p hp => ?_) (2 * i) 0 (by omega) ?_
    · rw [p4 _ (by omega), hO.1 _ (by omega) (by omega) (by omega) (by omega) (by omega) (by omega)]
      exact hW p hp
    · rw [p4 _ (by omega)]
      exact hD p hp
    · exact hq M4 ⟨fun c c1 c2 c3 c4 c5 c6 => by rw [p4 c c2, hO.1 c c1 c2 c3 c4 c5 c6], fun k hk => by rw [p4 m (by omega), hO.2.1 k hk], q4.trans hO.2.2⟩ (fun k hk => by rw [a4 k hk, hO.1 _ (by omega) (by omega) (by omega) (by omega) (by omega) (by omega)])
  | n + 1, i, M, h, h1, hD, hO => by
    obtain ⟨nli, _, hPi⟩ := hP.hrs i
    obtain ⟨nlj, hlj, hPj⟩ := hP.hrs (i + 1)
    have ok := hPi.ok
    rw [← h1] at ok
    refine bX11_check_61 hM ⟨fun q => ?_, fun _ => ?_⟩
    · have := (nI_leI (by omega) (by omega)).mp q
      omega
    refine ⟨_, cp_X11_oneHour G d hd X M m nli nx hM ok, ?_⟩
    rintro M8 ⟨g1, g2, g3, g4⟩
    have s8 : mI M8 (m + 1) = s_hrs (i + 1) τ := by
      rw [g1, h1]
      exact (s_hr_eq hPi.2.1 hPi.2.2.1 hPi.2.2.2.1 hPi.2.2.2.2.1 _).symm
    rw [dbl]
    refine ⟨2 * i, rfl, by omega, ?_⟩
    intro M13 e13
    have o13 : ∀ c, c ≠ m + 22 → mI M13 c = mI M8 c := fun c hc => by rw [e13, mI_sI, up2_off _ _ _ hc]
    have s13 : mI M13 (m + 1) = s_hrs (i + 1) τ := by rw [o13 _ (by omega), s8]
    refine ⟨_, cp_X11_allBulk G d (by omega) X M13 m nlj hM (by rw [s13]; exact hPj.2.1) hPj.2.2.1, ?_⟩
    rintro M16 r17 ⟨e, e17⟩
    have e := e.symm
    subst e
    have d2 : r17 = ckv τ (2 * i + 1) := by
      rw [ckv_1, e17, s13, hPj.2.1, nI_clamp (by have := hPj.2.2.1; omega)]
    rw [show nI (2 * i) + 1 = nI (2 * i + 1) from nI_1 _]
    refine ⟨2 * i + 1, rfl, by omega, ?_⟩
    intro M22 e22
    have o22 : ∀ c, c ≠ m + 22 → mI M22 c = mI M13 c := fun c hc => by rw [e22, mI_sI, up2_off _ _ _ hc]
    have q22 : mR M22 = mR M8 := by rw [e22, e13]; rfl
    rw [nI_1]
    refine cl_X11_check_61 G d hd hM hN hw hP M0 hW hq n (i + 1) M22 (by omega) (by rw [o22 _ (by omega), s13]) (fun p hp => ?_) ⟨fun c c1 c2 c3 c4 c5 c6 => ?_, fun k hk => ?_, ?_⟩
    · by_cases e1 : p = 2 * i + 1
      · subst e1
        rw [e22, mI_sI, up2_same, d2]
      · rw [e22, mI_sI, up2_k _ _ _ e1]
        by_cases e0 : p = 2 * i
        · subst e0
          rw [e13, mI_sI, up2_same, s8, ckv_0]
        · rw [e13, mI_sI, up2_k _ _ _ e0, g3 _ (by omega) (by omega) (by omega) (by omega) (by omega)]
          exact hD p (by omega)
    · rw [o22 c c6, o13 c c6, g3 c c1 c2 c3 c4 c5, hO.1 c c1 c2 c3 c4 c5 c6]
    · rw [o22 m (by omega), o13 m (by omega), g2, upd_ne hk]
      exact hO.2.1 k hk
    · rw [q22, g4]
      exact hO.2.2
/-- the rest, nothing being told any more -/
theorem Rest.wait0 {M M2 : Mm} {b m : Nat} (h : Rest M b m) (e : ∀ c, RestK b m c → mI M2 c = mI M c) (f2 : mI M2 b 2 = mI M b 2) (f8 : mI M2 b 8 = 0) (f227 : mI M2 (b + 227) 1 = mI M (b + 227) 1) (g3 : mI M2 m 3 = mI M m 3) (g19 : mI M2 m 19 = mI M m 19) (g34 : mI M2 m 34 = 0) (r1 : mR M2 (b + 96) = mR M (b + 96)) (r2 : ∃ la, LPm M2 (b + 173) la) : Rest M2 b m := by
  obtain ⟨⟨i1, i2⟩, ⟨⟨la, p1⟩, _⟩, t, s, l, w⟩ := h
  refine ⟨⟨by rw [f2, g3]; exact i1, fun q => ?_⟩, ⟨⟨la, fun j hj => by rw [r1]; exact p1.1 j hj, p1.2⟩, r2⟩, ?_, fun i hi => ?_, fun i hi => ?_, ⟨0, by omega, f8, g34, fun i hi => absurd hi (by omega)⟩⟩
  · rw [g3] at q
    rw [e (m + 2) (by unfold RestK; omega)]
    exact (i2 q).mem (fun c h1 h2 h3 => e c (Or.inl ⟨by omega, by omega, h3⟩)) r1
  · unfold TaR
    rw [f227, g19, e (b + 228) (by unfold RestK; omega), e (m + 17) (by unfold RestK; omega)]
    exact t
  · rw [e (b + 232 + 3 * i) (by unfold RestK; omega), e (b + 233 + 3 * i) (by unfold RestK; omega), e (b + 234 + 3 * i) (by unfold RestK; omega), e (m + 4) (by unfold RestK; omega), e (m + 5) (by unfold RestK; omega), e (m + 6) (by unfold RestK; omega)]
    exact s i hi
  · rw [e (b + 245 + 4 * i) (by unfold RestK; omega), e (b + 246 + 4 * i) (by unfold RestK; omega), e (b + 247 + 4 * i) (by unfold RestK; omega), e (b + 248 + 4 * i) (by unfold RestK; omega), e (m + 7) (by unfold RestK; omega), e (m + 8) (by unfold RestK; omega), e (m + 9) (by unfold RestK; omega), e (m + 10) (by unfold RestK; omega), e (m + 11) (by unfold RestK; omega)]
    exact l i hi
theorem case_check (G : Gl) (d : Nat) (hd : 16 ≤ d) (X : Sh) (b m : Nat) (hS : Sh9 X b) (hM : Sh10 X m) (hbm : b + 266 ≤ m) (x1 : Int32) : Case G d X b m m_X10_check m_X11_check [.int x1] := by
  obtain ⟨d, rfl⟩ : ∃ d1, d = d1 + 1 := ⟨d - 1, by omega⟩
  intro M hs
  obtain ⟨⟨nb, nl, nx, nt, nd, la, hh⟩, hr⟩ := id hs
  obtain ⟨⟨i1, i2⟩, ⟨_, ⟨la3, hP3⟩⟩, _, _, _, ⟨w, hw, w8, w34, wr⟩⟩ := id hr
  have early : ∀ M2 N2 : Mm, M2 = sI M b 8 0 → N2 = sI M2 m 34 0 → Sim N2 b m := fun M2 N2 e2 f2 => by
    have o : ∀ c, c ≠ b → c ≠ m → mI N2 c = mI M c := fun c h1 h2 => by rw [f2, mI_sI, up2_off _ _ _ h2, e2, mI_sI, up2_off _ _ _ h1]
    have r : mR N2 = mR M := by rw [f2, e2]; rfl
    have ob : ∀ k, k ≠ 8 → mI N2 b k = mI M b k := fun k hk => by rw [f2, mI_sI, up2_off _ _ _ (by omega), e2, mI_sI, up2_k _ _ _ hk]
    have om : ∀ k, k ≠ 34 → mI N2 m k = mI M m k := fun k hk => by rw [f2, mI_sI, up2_k _ _ _ hk, e2, mI_sI, up2_off _ _ _ (by omega)]
    refine ⟨?_, hr.wait0 (fun c hc => o c (by unfold RestK at hc; omega) (by unfold RestK at hc; omega)) (ob _ (by omega)) ?_ (by rw [o _ (by omega) (by omega)]) (om _ (by omega)) (om _ (by omega)) ?_ (by rw [r]) ⟨la3, hP3.mR r⟩⟩
    · rw [o (m + 1) (by omega) (by omega)]
      exact hs.1.mem (fun c h1 h2 _ => o c (by omega) (by omega)) (by rw [r])
    · rw [f2, mI_sI, up2_off _ _ _ (by omega), e2, mI_sI, up2_same]
    · rw [f2, mI_sI, up2_same]
  refine Cn.of (by decide) (Nat.le_of_ble_eq_true rfl) (bX10_check_0 hS ?_)
  intro v1 e1 M2 e2
  rw [w8] at e1
  subst e1
  have o2 : ∀ c, c ≠ b → mI M2 c = mI M c := fun c hc => by rw [e2, mI_sI, up2_off _ _ _ hc]
  have r2 : mR M2 = mR M := by rw [e2]; rfl
  have b2 : mI M2 b 2 = mI M m 3 := by rw [e2, mI_sI, up2_k _ _ _ (by omega), i1]
  by_cases h : 1 ≤ x1 ∧ x1 ≤ 30
  · by_cases h0 : mI M m 3 = 0
    · refine ⟨fun _ => ⟨fun q => absurd (b2.trans h0) q, fun _ => Cn.of (by decide) (Nat.le_of_ble_eq_true rfl) (bX11_check_0 hM ?_)⟩, fun q => absurd h q⟩
      intro v3 e3 N2 f2
      refine ⟨fun _ => ⟨fun q => absurd ?_ q, fun _ => ⟨rfl, early M2 N2 e2 f2⟩⟩, fun q => absurd h q⟩
      rw [f2, mI_sI, up2_k _ _ _ (by omega), o2 _ (by omega), h0]
    · obtain ⟨nb2, nl2, nx2, nt2, nd2, la2, h2⟩ := i2 h0
      obtain ⟨N, hN, rfl⟩ := ix_le (nb := 30) (by omega) (Int32.le_trans (by decide) h.1) h.2
      have ht := h2.eqv (τ := rowX (mI M (m + 2)) (mI M (m + 1))) (fun k hk => if_pos hk)
      obtain ⟨u0, u1, u2, u3, u4, u5, u6, u7, u8, u9, ub, uf, ul, ut, ud, sl, g, s1, s2, s3, s4, s5⟩ := id ht.1
      obtain ⟨_, tB, tF, tT, tD, tR⟩ := id ht
      refine ⟨fun _ => ⟨fun _ => ⟨_, cp_X1_become G d (by omega) X M2 (b + 173) (b + 87 + 8) nl2 _ la3 la2 (sh9_S_trial hS) (sh2_S_furnace (sh9_S_image hS)) (by omega) u3 (tF.mem u3 (fun c h4 h5 => o2 c (by omega)) (by rw [r2])) (hP3.mR r2), ?_⟩, fun q => absurd (b2.symm.trans q) h0⟩, fun q => absurd h q⟩
      rintro M7 ⟨f7, o7, r7⟩
      have k7 : ∀ c, c < b + 173 ∨ b + 223 < c → c ≠ b → mI M7 c = mI M c := fun c h4 h5 => by rw [o7 c (by omega), o2 c h5]
      have hs7 : HTf M7 (b + 87) (b + 173) nl2 nx2 (s_hrs 0 (rowX (mI M (m + 2)) (mI M (m + 1)))) la3 := ⟨ht.ph, tT.mem u5 (fun c h4 h5 => k7 c (by omega) (by omega)), f7, by rw [k7 _ (by omega) (by omega)]; exact tR 1 (by omega), g, s3, s5⟩
      refine cl_X10_check G d (by omega) hS hN hw M7 rfl (fun M8 O8 hp8 => ?_) N 0 nl2 la3 M7 (by omega) hs7 ⟨fun _ _ _ _ => rfl, fun _ _ => rfl⟩ rfl
      have m8 : ∀ c, m ≤ c → mI M8 c = mI M c := fun c hc => by rw [O8.1 c (by omega) (by omega) (by omega), k7 c (by omega) (by omega)]
      refine Cn.of (by decide) (Nat.le_of_ble_eq_true rfl) (bX11_check_0 hM ?_)
      intro v3 e3 N2 f2
      rw [m8 _ (by omega), w34] at e3
      subst e3
      have p2 : ∀ c, c ≠ m → mI N2 c = mI M8 c := fun c hc => by rw [f2, mI_sI, up2_off _ _ _ hc]
      have q2 : mR N2 = mR M8 := by rw [f2]; rfl
      have z2 : ∀ k, k ≠ 34 → mI N2 m k = mI M m k := fun k hk => by rw [f2, mI_sI, up2_k _ _ _ hk, m8 _ (by omega)]
      refine ⟨fun _ => ⟨fun _ => ⟨_, cp_X11_setAside G d X N2 m (m + 1) (m + 3) hM (sh10_K_s hM) (sh10_N_s hM) (sh10_K_aside hM) (sh10_N_aside hM) (by omega), ?_⟩, fun q => absurd ((z2 3 (by omega)).symm.trans q) h0⟩, fun q => absurd h q⟩
      rintro N7 ⟨a7, p7, q7⟩
      refine ⟨_, cp_X11_setAsideX G d X N7 m (m + 2) (m + 1) hM (sh10_K_image hM) (sh10_N_image hM) (sh10_K_s hM) (sh10_N_s hM) (by omega), ?_⟩
      rintro N11 ⟨a11, p11, q11⟩
      have s11 : mI N11 (m + 1) = rowX (mI M (m + 2)) (mI M (m + 1)) := by rw [a11, p7 _ (by omega), p2 _ (by omega), m8 _ (by omega), p7 _ (by omega), p2 _ (by omega), m8 _ (by omega)]
      refine cl_X11_check_61 G d (by omega) (W := mI M7 (b + 265)) hM hN hw ht.ph N11 (fun p hp => ?_) (fun N12 O12 h12 => ?_) N 0 N11 (by omega) s11 (fun p hp => absurd hp (by omega)) ⟨fun _ _ _ _ _ _ _ => rfl, fun _ _ => rfl, rfl⟩
      · rw [p11 _ (by omega), p7 _ (by omega), p2 _ (by omega), m8 _ (by omega), k7 _ (by omega) (by omega)]
        exact (wr p hp).symm
      have e12 : ∀ k, k < 2950 → mI N12 (m + 1) k = mI M (m + 1) k := fun k hk => by rw [h12 k hk, p11 _ (by omega), a7 k hk, p2 _ (by omega), m8 _ (by omega)]
      have oo : ∀ c, c < m → c ≠ b → c < b + 173 ∨ b + 226 < c → c ≠ b + 167 → c ≠ b + 168 → mI N12 c = mI M c := fun c c1 c2 c3 c4 c5 => by rw [O12.1 c (by omega) (by omega) (by omega) (by omega) (by omega) (by omega), p11 c (by omega), p7 c (by omega), p2 c (by omega), O8.1 c (by omega) (by omega) (by omega), k7 c (by omega) c2]
      have om : ∀ c, m + 1 < c → c ≠ m + 3 → c ≠ m + 13 → c ≠ m + 18 → c ≠ m + 19 → c ≠ m + 22 → mI N12 c = mI M c := fun c c1 c2 c3 c4 c5 c6 => by rw [O12.1 c (by omega) (by omega) (by omega) (by omega) (by omega) (by omega), p11 c (by omega), p7 c (by omega), p2 c (by omega), m8 c (by omega)]
      have ob : ∀ k, mI N12 b k = mI M2 b k := fun k => by rw [O12.1 b (by omega) (by omega) (by omega) (by omega) (by omega) (by omega), p11 b (by omega), p7 b (by omega), p2 b (by omega), O8.1 b (by omega) (by omega) (by omega), o7 b (by omega)]
      have ow : ∀ k, k ≠ 17 → mI N12 m k = mI N2 m k := fun k hk => by rw [O12.2.1 k hk, p11 m (by omega), p7 m (by omega)]
      have rr : ∀ c, c ≠ b + 174 → mR N12 c = mR M c := fun c hc => by rw [O12.2.2, q11, q7, q2, O8.2 c (by omega), r7, r2]
      refine ⟨rfl, HS.eqv (σ := mI M (m + 1)) (hs.1.mem (fun c c1 c2 c3 => oo c (by omega) (by omega) (by omega) (by omega) (by omega)) (rr _ (by omega))) e12, hr.wait0 (fun c hc => ?_) (by rw [ob, b2, i1]) (by rw [ob, e2, mI_sI, up2_same]) (by rw [oo _ (by omega) (by omega) (by omega) (by omega) (by omega)]) (by rw [ow _ (by omega), z2 _ (by omega)]) (by rw [ow _ (by omega), z2 _ (by omega)]) (by rw [ow _ (by omega), f2, mI_sI, up2_same]) (rr _ (by omega)) ?_⟩
      · unfold RestK Scr at hc
        by_cases q : c < m
        · exact oo c q (by omega) (by omega) (by omega) (by omega)
        · exact om c (by omega) (by omega) (by omega) (by omega) (by omega) (by omega)
      · obtain ⟨la5, p5⟩ := hp8
        exact ⟨la5, p5.mR (by rw [O12.2.2, q11, q7, q2])⟩
  · refine ⟨fun q => absurd q h, fun _ => Cn.of (by decide) (Nat.le_of_ble_eq_true rfl) (bX11_check_0 hM ?_)⟩
    intro v3 e3 N2 f2
    exact ⟨fun q => absurd q h, fun _ => ⟨rfl, early M2 N2 e2 f2⟩⟩
