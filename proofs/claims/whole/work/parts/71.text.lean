/-! text: the class and the reference say the same of a tape -/
theorem bX11_text_0 {G : Gl} {d : Nat} {X : Sh} {M : Mm} {Q : Mm → Int32 → Prop} {a : Nat} (hS : Sh10 X a) (h : (∃ q1 : Mm → Int32 → Prop, Cn G m_X11_parse d [.ref a] X M q1 ∧ ∀ M3 r4, q1 M3 r4 → ((0 ≤ r4 → ((¬ ((mI M3 (a + 1) 2) = 12) → (∀ v8 : Int32, v8 = (340 + 200 * (mI M3 (a + 1) 2)) → (∃ j9 : Nat, (v8 + 0) = nI j9 ∧ j9 < 2950 ∧ (∀ M12 : Mm, M12 = sI M3 (a + 1) j9 r4 → (∃ j13 : Nat, (v8 + 1) = nI j13 ∧ j13 < 2950 ∧ (∀ M16 : Mm, M16 = sI M12 (a + 1) j13 (mI M12 a 29) → (∃ j17 : Nat, (v8 + 2) = nI j17 ∧ j17 < 2950 ∧ (∀ M20 : Mm, M20 = sI M16 (a + 1) j17 (mI M16 a 27) → (∀ M21 : Mm, M21 = sI M20 (a + 1) 2 ((mI M20 (a + 1) 2) + 1) → Q M21 ((mI M21 (a + 1) 2) - 1)))))))))) ∧ ((mI M3 (a + 1) 2) = 12 → Q M3 (-1000000003)))) ∧ (¬ (0 ≤ r4) → Q M3 ((-100) - (mI M3 a 20)))))) : Wn G m_X11_text (d + 1) 0 [(0, .ref a)] [] X M Q := by
  refine wp_aload_n 0 dX11_text_0 rfl rfl ?_
  obtain ⟨q1, o2, h⟩ := h
  refine wp_cvi dX11_text_1 ck_RX11_306 (sh10_K hS) (as := []) rfl rfl (Nat.le_of_ble_eq_true rfl) o2 (fun M3 r4 o5 => ?_)
  replace h := h M3 r4 o5
  refine wp_istore_n (lo2 := [(1, .int _), (0, .ref _)]) dX11_text_4 rfl (by decide) rfl ?_
  refine wp_iload_n 0 dX11_text_5 rfl rfl ?_
  refine wp_if_ge (tgt := 17) dX11_text_6 (by decide) (fun c6 => ?_) (fun c6 => ?_)
  · replace h := h.1 c6
    refine wp_aload_n 1 dX11_text_17 rfl rfl ?_
    refine wp_getR dX11_text_18 fl_RX11_7 rfl (sh10_K hS) (sh10_F_s hS) ?_
    refine wp_iconst (v := 2) dX11_text_21 rfl ?_
    refine wp_iald (n := 2950) dX11_text_22 (sh10_K_s hS) (sh10_N_s hS) (by decide) rfl (by decide) ?_
    refine wp_bipush (v := 12) dX11_text_23 rfl ?_
    refine wp_icmp_ne (tgt := 31) dX11_text_25 (by decide) (fun c7 => ?_) (fun c7 => ?_)
    · replace h := h.1 c7
      refine wp_aload_n 1 dX11_text_31 rfl rfl ?_
      refine wp_aload_n 1 dX11_text_32 rfl rfl ?_
      refine wp_getR dX11_text_33 fl_RX11_7 rfl (sh10_K hS) (sh10_F_s hS) ?_
      refine wp_iconst (v := 2) dX11_text_36 rfl ?_
      refine wp_iald (n := 2950) dX11_text_37 (sh10_K_s hS) (sh10_N_s hS) (by decide) rfl (by decide) ?_
      refine wp_cvip dX11_text_38 ck_RX11_300 (sh10_K hS) (as := [.int ((mI M3 (a + 1) 2))]) rfl rfl (Nat.le_of_ble_eq_true rfl) (cp_X11_textAt G d X M3 a (mI M3 (a + 1) 2) hS) ?_
      refine wp_topi (fun v8 ev8 => ?_)
      replace h := h v8 ev8
      refine wp_istore_n (lo2 := [(2, .int _), (1, .int _), (0, .ref _)]) dX11_text_41 rfl (by decide) rfl ?_
      refine wp_aload_n 2 dX11_text_42 rfl rfl ?_
      refine wp_getR dX11_text_43 fl_RX11_7 rfl (sh10_K hS) (sh10_F_s hS) ?_
      refine wp_iload_n 0 dX11_text_46 rfl rfl ?_
      refine wp_iconst (v := 0) dX11_text_47 rfl ?_
      refine wp_iadd dX11_text_48 ?_
      refine wp_iload_n 1 dX11_text_49 rfl rfl ?_
      obtain ⟨j9, o10, o11, h⟩ := h
      refine wp_iast (n := 2950) dX11_text_50 (sh10_K_s hS) (sh10_N_s hS) (by decide) o10 o11 ?_
      refine wp_nm (fun M12 eM12 => ?_)
      replace h := h M12 eM12
      refine wp_aload_n 2 dX11_text_51 rfl rfl ?_
      refine wp_getR dX11_text_52 fl_RX11_7 rfl (sh10_K hS) (sh10_F_s hS) ?_
      refine wp_iload_n 0 dX11_text_55 rfl rfl ?_
      refine wp_iconst (v := 1) dX11_text_56 rfl ?_
      refine wp_iadd dX11_text_57 ?_
      refine wp_aload_n 2 dX11_text_58 rfl rfl ?_
      refine wp_getI dX11_text_59 fl_RX11_285 rfl (sh10_K hS) ?_
      obtain ⟨j13, o14, o15, h⟩ := h
      refine wp_iast (n := 2950) dX11_text_62 (sh10_K_s hS) (sh10_N_s hS) (by decide) o14 o15 ?_
      refine wp_nm (fun M16 eM16 => ?_)
      replace h := h M16 eM16
      refine wp_aload_n 2 dX11_text_63 rfl rfl ?_
      refine wp_getR dX11_text_64 fl_RX11_7 rfl (sh10_K hS) (sh10_F_s hS) ?_
      refine wp_iload_n 0 dX11_text_67 rfl rfl ?_
      refine wp_iconst (v := 2) dX11_text_68 rfl ?_
      refine wp_iadd dX11_text_69 ?_
      refine wp_aload_n 2 dX11_text_70 rfl rfl ?_
      refine wp_getI dX11_text_71 fl_RX11_261 rfl (sh10_K hS) ?_
      obtain ⟨j17, o18, o19, h⟩ := h
      refine wp_iast (n := 2950) dX11_text_74 (sh10_K_s hS) (sh10_N_s hS) (by decide) o18 o19 ?_
      refine wp_nm (fun M20 eM20 => ?_)
      replace h := h M20 eM20
      refine wp_aload_n 2 dX11_text_75 rfl rfl ?_
      refine wp_getR dX11_text_76 fl_RX11_7 rfl (sh10_K hS) (sh10_F_s hS) ?_
      refine wp_iconst (v := 2) dX11_text_79 rfl ?_
      refine wp_dup2_11 dX11_text_80 rfl rfl ?_
      refine wp_iald (n := 2950) dX11_text_81 (sh10_K_s hS) (sh10_N_s hS) (by decide) rfl (by decide) ?_
      refine wp_iconst (v := 1) dX11_text_82 rfl ?_
      refine wp_iadd dX11_text_83 ?_
      refine wp_iast (n := 2950) dX11_text_84 (sh10_K_s hS) (sh10_N_s hS) (by decide) rfl (by decide) ?_
      refine wp_nm (fun M21 eM21 => ?_)
      replace h := h M21 eM21
      refine wp_aload_n 2 dX11_text_85 rfl rfl ?_
      refine wp_getR dX11_text_86 fl_RX11_7 rfl (sh10_K hS) (sh10_F_s hS) ?_
      refine wp_iconst (v := 2) dX11_text_89 rfl ?_
      refine wp_iald (n := 2950) dX11_text_90 (sh10_K_s hS) (sh10_N_s hS) (by decide) rfl (by decide) ?_
      refine wp_iconst (v := 1) dX11_text_91 rfl ?_
      refine wp_isub dX11_text_92 ?_
      exact wn_iret dX11_text_93 rfl h
    · replace h := h.2 c7
      refine wp_ldc dX11_text_28 kc_RX11_101 ?_
      exact wn_iret dX11_text_30 rfl h
  · replace h := h.2 c6
    refine wp_bipush (v := (-100)) dX11_text_9 rfl ?_
    refine wp_aload_n 1 dX11_text_11 rfl rfl ?_
    refine wp_getI dX11_text_12 fl_RX11_236 rfl (sh10_K hS) ?_
    refine wp_isub dX11_text_15 ?_
    exact wn_iret dX11_text_16 rfl h
theorem bX9_add_0 {G : Gl} {d : Nat} {X : Sh} {M : Mm} {Q : Mm → Int32 → Prop} {a : Nat} {b1 : Nat} (hS : Sh8 X a) (hS1 : Sh7 X b1) (h : (((mI M a 5) < 12 → (∀ v2 : Int32, v2 = (mI M a 5) → (∃ j3 : Nat, v2 = nI j3 ∧ j3 < 12 ∧ (∀ M6 : Mm, M6 = sI M (a + 1) j3 (mI M b1 6) → (∀ M7 : Mm, M7 = sI M6 (a + 2) j3 (mI M6 b1 7) → (∀ M8 : Mm, M8 = sI M7 (a + 3) j3 (mI M7 b1 8) → (∀ M9 : Mm, M9 = sI M8 (a + 17) j3 (mI M8 b1 10) → (∃ j10 : Nat, (mI M9 b1 10) = nI j10 ∧ (0 + j10 ≤ 96 ∧ (0 + j10 ≤ 96 ∧ (∀ M14 : Mm, M14 = sC M9 (b1 + 2) 0 (a + 5 + j3) 0 j10 → (∀ M15 : Mm, M15 = sI M14 a 5 ((mI M14 a 5) + 1) → Q M15 v2)))))))))))) ∧ (¬ ((mI M a 5) < 12) → Q M (-1000000003)))) : Wn G m_X9_add (d + 1) 0 [(0, .ref a), (1, .ref b1)] [] X M Q := by
  refine wp_aload_n 0 dX9_add_0 rfl rfl ?_
  refine wp_getI dX9_add_1 fl_RX9_29 rfl (sh8_K hS) ?_
  refine wp_bipush (v := 12) dX9_add_4 rfl ?_
  refine wp_icmp_lt (tgt := 12) dX9_add_6 (by decide) (fun c1 => ?_) (fun c1 => ?_)
  · replace h := h.1 c1
    refine wp_aload_n 0 dX9_add_12 rfl rfl ?_
    refine wp_getI dX9_add_13 fl_RX9_29 rfl (sh8_K hS) ?_
    refine wp_topi (fun v2 ev2 => ?_)
    replace h := h v2 ev2
    refine wp_istore_n (lo2 := [(2, .int _), (0, .ref _), (1, .ref _)]) dX9_add_16 rfl (by decide) rfl ?_
    refine wp_aload_n 1 dX9_add_17 rfl rfl ?_
    refine wp_getR dX9_add_18 fl_RX9_9 rfl (sh8_K hS) (sh8_F_key hS) ?_
    refine wp_iload_n 0 dX9_add_21 rfl rfl ?_
    refine wp_aload_n 2 dX9_add_22 rfl rfl ?_
    refine wp_getI dX9_add_23 fl_RX9_46 rfl (sh7_K hS1) ?_
    obtain ⟨j3, o4, o5, h⟩ := h
    refine wp_iast (n := 12) dX9_add_26 (sh8_K_key hS) (sh8_N_key hS) (by decide) o4 o5 ?_
    refine wp_nm (fun M6 eM6 => ?_)
    replace h := h M6 eM6
    refine wp_aload_n 1 dX9_add_27 rfl rfl ?_
    refine wp_getR dX9_add_28 fl_RX9_15 rfl (sh8_K hS) (sh8_F_bin hS) ?_
    refine wp_iload_n 0 dX9_add_31 rfl rfl ?_
    refine wp_aload_n 2 dX9_add_32 rfl rfl ?_
    refine wp_getI dX9_add_33 fl_RX9_50 rfl (sh7_K hS1) ?_
    refine wp_iast (n := 12) dX9_add_36 (sh8_K_bin hS) (sh8_N_bin hS) (by decide) o4 o5 ?_
    refine wp_nm (fun M7 eM7 => ?_)
    replace h := h M7 eM7
    refine wp_aload_n 1 dX9_add_37 rfl rfl ?_
    refine wp_getR dX9_add_38 fl_RX9_18 rfl (sh8_K hS) (sh8_F_pieces hS) ?_
    refine wp_iload_n 0 dX9_add_41 rfl rfl ?_
    refine wp_aload_n 2 dX9_add_42 rfl rfl ?_
    refine wp_getI dX9_add_43 fl_RX9_52 rfl (sh7_K hS1) ?_
    refine wp_iast (n := 12) dX9_add_46 (sh8_K_pieces hS) (sh8_N_pieces hS) (by decide) o4 o5 ?_
    refine wp_nm (fun M8 eM8 => ?_)
    replace h := h M8 eM8
    refine wp_aload_n 1 dX9_add_47 rfl rfl ?_
    refine wp_getR dX9_add_48 fl_RX9_26 rfl (sh8_K hS) (sh8_F_codes hS) ?_
    refine wp_iload_n 0 dX9_add_51 rfl rfl ?_
    refine wp_aload_n 2 dX9_add_52 rfl rfl ?_
    refine wp_getI dX9_add_53 fl_RX9_54 rfl (sh7_K hS1) ?_
    refine wp_iast (n := 12) dX9_add_56 (sh8_K_codes hS) (sh8_N_codes hS) (by decide) o4 o5 ?_
    refine wp_nm (fun M9 eM9 => ?_)
    replace h := h M9 eM9
    refine wp_aload_n 2 dX9_add_57 rfl rfl ?_
    refine wp_getR dX9_add_58 fl_RX9_56 rfl (sh7_K hS1) (sh7_F_code hS1) ?_
    refine wp_iconst (v := 0) dX9_add_61 rfl ?_
    refine wp_aload_n 1 dX9_add_62 rfl rfl ?_
    refine wp_getR dX9_add_63 fl_RX9_23 rfl (sh8_K hS) (sh8_F_code hS) ?_
    refine wp_iload_n 0 dX9_add_66 rfl rfl ?_
    refine wp_fald (n := 12) dX9_add_67 (Or.inr <| Or.inr (sh8_K_code hS)) (sh8_N_code hS) (by decide) o4 o5 (sh8_E_code hS j3 o5) ?_
    refine wp_iconst (v := 0) dX9_add_68 rfl ?_
    refine wp_aload_n 2 dX9_add_69 rfl rfl ?_
    refine wp_getI dX9_add_70 fl_RX9_54 rfl (sh7_K hS1) ?_
    obtain ⟨j10, o11, h⟩ := h
    obtain ⟨o12, h⟩ := h
    obtain ⟨o13, h⟩ := h
    refine wp_copy (n0 := 96) (n1 := 96) dX9_add_73 cc_RX9_39 (sh7_K_code hS1) (sh8_EK_code hS j3 o5) (sh7_N_code hS1) (sh8_EN_code hS j3 o5) (by decide) (by decide) rfl rfl o11 o12 o13 (Nat.le_of_ble_eq_true rfl) ?_
    refine wp_nm (fun M14 eM14 => ?_)
    replace h := h M14 eM14
    refine wp_aload_n 1 dX9_add_76 rfl rfl ?_
    refine wp_dup dX9_add_77 rfl ?_
    refine wp_getI dX9_add_78 fl_RX9_29 rfl (sh8_K hS) ?_
    refine wp_iconst (v := 1) dX9_add_81 rfl ?_
    refine wp_iadd dX9_add_82 ?_
    refine wp_putI dX9_add_83 fp_RX9_29 rfl (sh8_K hS) ?_
    refine wp_nm (fun M15 eM15 => ?_)
    replace h := h M15 eM15
    refine wp_iload_n 0 dX9_add_86 rfl rfl ?_
    exact wn_iret dX9_add_87 rfl h
  · replace h := h.2 c1
    refine wp_ldc dX9_add_9 kc_RX9_45 ?_
    exact wn_iret dX9_add_11 rfl h
theorem bX10_text_0 {G : Gl} {d : Nat} {X : Sh} {M : Mm} {Q : Mm → Int32 → Prop} {a : Nat} (hS : Sh9 X a) (h : (∃ q1 : Mm → Int32 → Prop, Cn G m_X8_readText d [.ref (a + 227)] X M q1 ∧ ∀ M3 r4, q1 M3 r4 → (∀ M6 : Mm, M6 = sI M3 (a + 227) 1 0 → ((r4 < 0 → (∃ q8 : Mm → Int32 → Prop, Cn G m_X9_add d [.ref ((a + 1) + 62), .ref (a + 227)] X M6 q8 ∧ ∀ M10 r11, q8 M10 r11 → Q M10 r11)) ∧ (¬ (r4 < 0) → Q M6 ((-100) - r4)))))) : Wn G m_X10_text (d + 1) 0 [(0, .ref a)] [] X M Q := by
  refine wp_aload_n 0 dX10_text_0 rfl rfl ?_
  refine wp_getR dX10_text_1 fl_RX10_33 rfl (sh9_K hS) (sh9_F_tape hS) ?_
  obtain ⟨q1, o2, h⟩ := h
  refine wp_cvi dX10_text_4 ck_RX10_206 (sh7_K (sh9_S_tape hS)) (as := []) rfl rfl (Nat.le_of_ble_eq_true rfl) o2 (fun M3 r4 o5 => ?_)
  replace h := h M3 r4 o5
  refine wp_istore_n (lo2 := [(1, .int _), (0, .ref _)]) dX10_text_7 rfl (by decide) rfl ?_
  refine wp_aload_n 1 dX10_text_8 rfl rfl ?_
  refine wp_getR dX10_text_9 fl_RX10_33 rfl (sh9_K hS) (sh9_F_tape hS) ?_
  refine wp_iconst (v := 0) dX10_text_12 rfl ?_
  refine wp_putI dX10_text_13 fp_RX10_200 rfl (sh7_K (sh9_S_tape hS)) ?_
  refine wp_nm (fun M6 eM6 => ?_)
  replace h := h M6 eM6
  refine wp_iload_n 0 dX10_text_16 rfl rfl ?_
  refine wp_if_lt (tgt := 25) dX10_text_17 (by decide) (fun c7 => ?_) (fun c7 => ?_)
  · replace h := h.1 c7
    refine wp_aload_n 1 dX10_text_25 rfl rfl ?_
    refine wp_getR dX10_text_26 fl_RX10_10 rfl (sh9_K hS) (sh9_F_house hS) ?_
    refine wp_getR dX10_text_29 fl_RX10_209 rfl (sh2_K (sh9_S_house hS)) (sh2_F_texts (sh9_S_house hS)) ?_
    refine wp_aload_n 1 dX10_text_32 rfl rfl ?_
    refine wp_getR dX10_text_33 fl_RX10_33 rfl (sh9_K hS) (sh9_F_tape hS) ?_
    obtain ⟨q8, o9, h⟩ := h
    refine wp_cvi dX10_text_36 ck_RX10_213 (sh8_K (sh2_S_texts (sh9_S_house hS))) (as := [.ref (a + 227)]) rfl rfl (Nat.le_of_ble_eq_true rfl) o9 (fun M10 r11 o12 => ?_)
    replace h := h M10 r11 o12
    exact wn_iret dX10_text_39 rfl h
  · replace h := h.2 c7
    refine wp_bipush (v := (-100)) dX10_text_20 rfl ?_
    refine wp_iload_n 0 dX10_text_22 rfl rfl ?_
    refine wp_isub dX10_text_23 ?_
    exact wn_iret dX10_text_24 rfl h
theorem crun_stop {c : Nat → Nat} {n key j : Nat} {s : Tk × Bd} (h : Stuck c key s ∨ Done s) : crun c n key (j + 1) s = none := by
  unfold crun
  by_cases z : kS s.1 = 0
  · exact if_pos z
  · rw [if_neg z]
    rcases h with (h | h) | h
    · rw [h.2]
    · exact absurd h.1 z
    · exact absurd h.1 z
theorem crun_uniq {c : Nat → Nat} {n key : Nat} : ∀ {i j : Nat} {s s2 s3 : Tk × Bd}, crun c n key i s = some s2 → crun c n key j s = some s3 → (Stuck c key s2 ∨ Done s2) → (Stuck c key s3 ∨ Done s3) → s2 = s3
  | 0, 0, s, s2, s3, h1, h2, _, _ => Option.some.inj (h1.symm.trans h2)
  | 0, j + 1, s, s2, s3, h1, h2, t2, _ => by
    have e : s = s2 := Option.some.inj h1
    subst e
    rw [crun_stop t2] at h2
    cases h2
  | i + 1, 0, s, s2, s3, h1, h2, _, t3 => by
    have e : s = s3 := Option.some.inj h2
    subst e
    rw [crun_stop t3] at h1
    cases h1
  | i + 1, j + 1, s, s2, s3, h1, h2, t2, t3 => by
    unfold crun at h1 h2
    by_cases z : kS s.1 = 0
    · rw [if_pos z] at h1
      cases h1
    · rw [if_neg z] at h1 h2
      cases hb : cbody c key s.1 s.2 with
      | none => rw [hb] at h1; cases h1
      | some b =>
        rw [hb] at h1 h2
        exact crun_uniq h1 h2 t2 t3
theorem crun_ends {c : Nat → Nat} {n key : Nat} : ∀ (N : Nat) (s : Tk × Bd), TV c n s.1 → n - kB s.1 ≤ N → ∃ s2, Runs c n key s s2 ∧ (Stuck c key s2 ∨ Done s2)
  | N, s, hT, hN => by
    by_cases z : kS s.1 = 0
    · refine ⟨s, Runs.refl s, ?_⟩
      by_cases w : s.2.1 = true
      · exact Or.inl (Or.inr ⟨z, Or.inl w⟩)
      · by_cases b : 0 < s.2.2.2.2.1
        · exact Or.inl (Or.inr ⟨z, Or.inr b⟩)
        · exact Or.inr ⟨z, Bool.eq_false_iff.mpr w, by omega⟩
    · cases hb : cbody c key s.1 s.2 with
      | none => exact ⟨s, Runs.refl s, Or.inl (Or.inl ⟨z, hb⟩)⟩
      | some b =>
        have lt := hT.2.2.2.2.1 z
        have ke := hT.2.2.1
        obtain ⟨T2, nx⟩ := TV.next (c := c) ke
        match N, hN with
        | 0, hN => exact absurd hN (by omega)
        | N + 1, hN =>
          obtain ⟨s2, h1, h2⟩ := crun_ends N (tnext c n s.1, b) T2 (by
            show n - kB (tnext c n s.1) ≤ N
            omega)
          exact ⟨s2, (Runs.one z hb).trans h1, h2⟩
theorem T_ok.congX {σ τ : Nat → Int32} {t nx : Nat} (ht : t < nx) (h : T_ok σ t) (e : ∀ k, 340 ≤ k → k < 340 + 200 * nx → τ k = σ k) : T_ok τ t := by
  obtain ⟨n, h1, h2, h3, h4, h5⟩ := h
  have hd : ∀ k, k ≤ 96 → dp_run τ (344 + 200 * t) k = dp_run σ (344 + 200 * t) k := by
    intro k
    induction k with
    | zero => exact fun _ => rfl
    | succ k ih =>
      intro hk
      show (dp_run τ (344 + 200 * t) k).bind _ = (dp_run σ (344 + 200 * t) k).bind _
      rw [ih (by omega), e _ (by omega) (by omega), e _ (by omega) (by omega)]
  refine ⟨n, by rw [e _ (by omega) (by omega), h1], h2, h3, by rw [hd n h3, h4], fun k hk => ?_⟩
  rw [e _ (by omega) (by omega), e _ (by omega) (by omega), e _ (by omega) (by omega)]
  exact h5 k hk
theorem TXt.congX {M M2 : Mm} {a t nx : Nat} {σ τ : Nat → Int32} (ht : t < nx) (h : TXt M a σ t) (e : ∀ k, 340 ≤ k → k < 340 + 200 * nx → τ k = σ k) (m1 : mI M2 (a + 1) t = mI M (a + 1) t) (m2 : mI M2 (a + 2) t = mI M (a + 2) t) (m3 : mI M2 (a + 3) t = mI M (a + 3) t) (m17 : mI M2 (a + 17) t = mI M (a + 17) t) (m5 : mI M2 (a + 5 + t) = mI M (a + 5 + t)) : TXt M2 a τ t := by
  obtain ⟨⟨v, v1, v2, v3, v4⟩, h1, h2, h3, h4⟩ := h
  refine ⟨⟨v, v1, by rw [e _ (by omega) (by omega), v2], by rw [m1, v3], by rw [m2, v4]⟩, by rw [m3, e _ (by omega) (by omega), h1], by rw [m17, e _ (by omega) (by omega), h2], h3.congX ht e, fun k hk hk2 => ?_⟩
  rw [m5, e _ (by omega) (by omega), e _ (by omega) (by omega)]
  rw [e _ (by omega) (by omega)] at hk
  exact h4 k hk hk2
/-- the house against a row that differs in the texts alone -/
theorem HSx.tx {M M2 : Mm} {h nb nl nx nx2 nt nd : Nat} {σ τ : Nat → Int32} {la : Nat → Nat} (hs : HSx M h σ nb nl nx nt nd la) (e : ∀ k, k < 340 → k ≠ 2 → τ k = σ k) (e2 : τ 2 = nI nx2) (hn2 : nx2 ≤ 12) (ho : ∀ c, h + 1 ≤ c → c ≤ h + 85 → ¬ Scr h c → (c < h + 62 ∨ h + 79 < c) → mI M2 c = mI M c) (eR : mR M2 (h + 9) = mR M (h + 9)) (hT2 : TRep M2 (h + 62) τ nx2) : HSx M2 h τ nb nl nx2 nt nd la := by
  obtain ⟨hW, hB, hF, hT, hD, hR⟩ := hs
  obtain ⟨w0, w1, w2, w3, w4, w5, w6, w7, w8, w9, wb, wf, wl, wt, wd, sl, g, s1, s2, s3, s4, s5⟩ := hW
  have hB2 : BRep M (h + 1) τ nb := ⟨hB.1, by rw [e _ (by omega) (by omega)]; exact hB.2.1, fun i hi => by
    rw [e _ (by omega) (by omega), e _ (by omega) (by omega), e _ (by omega) (by omega), e _ (by omega) (by omega), e _ (by omega) (by omega)]
    exact hB.2.2.1 i hi, fun k hk => by rw [e _ (by omega) (by omega)]; exact hB.2.2.2 k hk⟩
  refine ⟨⟨by rw [e _ (by omega) (by omega), w0], w1, by rw [e _ (by omega) (by omega), w2], w3, e2, hn2, by rw [e _ (by omega) (by omega), w6], w7, by rw [e _ (by omega) (by omega), w8], w9, fun b hb => ?_, wf.cong w3 (fun k hk => e k (by unfold Fk at hk; omega) (by unfold Fk at hk; omega)), fun l hl => by rw [e _ (by omega) (by omega)]; exact wl l hl, fun k hk => by rw [e _ (by omega) (by omega)]; exact wt k hk, fun i hi => by rw [e _ (by omega) (by omega)]; exact wd i hi, sl, g, s1, ⟨s2.1, s2.2.cong (e 5 (by omega) (by omega))⟩, s3, by rw [e _ (by omega) (by omega), s4], by rw [e _ (by omega) (by omega), s5]⟩, hB2.mem (fun c h1 h2 => ho c (by omega) (by omega) (by unfold Scr; omega) (by omega)), (hF.cong wf w3 (fun k hk => e k (by unfold Fk at hk; omega) (by unfold Fk at hk; omega))).mem w3 (fun c h1 h2 => ho c (by omega) (by omega) (by unfold Scr; omega) (by omega)) eR, hT2, ?_, fun k hk => ?_⟩
  · obtain ⟨k, sh, v, s, hk, hsh, hv1, hv, hs9, e0, e1, e3, e4⟩ := wb b hb
    exact ⟨k, sh, v, s, hk, hsh, hv1, hv, hs9, by rw [e _ (by omega) (by omega), e0], by rw [e _ (by omega) (by omega), e1], by rw [e _ (by omega) (by omega), e3], by rw [e _ (by omega) (by omega), e4]⟩
  · have hD2 : DRep M (h + 82) τ nd := ⟨hD.1, fun i hi => by
      rw [e _ (by omega) (by omega), e _ (by omega) (by omega)]
      exact hD.2 i hi⟩
    exact hD2.mem (fun c h1 h2 => ho c (by omega) (by omega) (by unfold Scr; omega) (by omega))
  · rw [ho (h + 85) (by omega) (by omega) (by unfold Scr; omega) (by omega), e _ (by omega) (by omega)]
    exact hR k hk
theorem HSx.eqx {M M2 : Mm} {h nb nl nx nt nd : Nat} {σ τ : Nat → Int32} {la : Nat → Nat} (hs : HSx M h σ nb nl nx nt nd la) (e : ∀ k, k < 340 + 200 * nx → τ k = σ k) (ho : ∀ c, h + 1 ≤ c → c ≤ h + 85 → ¬ Scr h c → mI M2 c = mI M c) (eR : mR M2 (h + 9) = mR M (h + 9)) : HSx M2 h τ nb nl nx nt nd la := by
  have hW := hs.1
  have hT := hs.2.2.2.1
  refine hs.tx (fun k hk _ => e k (by omega)) (by rw [e 2 (by omega)]; exact hW.2.2.2.2.1) hW.2.2.2.2.2.1 (fun c h1 h2 h3 _ => ho c h1 h2 h3) eR ⟨by rw [ho (h + 62) (by omega) (by omega) (by unfold Scr; omega)]; exact hT.1, fun t ht => ?_⟩
  have n12 := hW.2.2.2.2.2.1
  exact (hT.2 t ht).congX ht (fun k _ hk => e k hk) (by rw [ho _ (by omega) (by omega) (by unfold Scr; omega)]) (by rw [ho _ (by omega) (by omega) (by unfold Scr; omega)]) (by rw [ho _ (by omega) (by omega) (by unfold Scr; omega)]) (by rw [ho _ (by omega) (by omega) (by unfold Scr; omega)]) (ho _ (by omega) (by omega) (by unfold Scr; omega))
/-- the rest, the tape apart -/
theorem Rest.tap {M M2 : Mm} {b m : Nat} (h : Rest M b m) (hT : TaR M2 b m) (e : ∀ c, (b + 88 ≤ c ∧ c ≤ b + 172) ∨ (b + 232 ≤ c ∧ c ≤ b + 265) ∨ c = m + 2 ∨ (m + 4 ≤ c ∧ c ≤ m + 11) ∨ c = m + 21 → mI M2 c = mI M c) (f2 : mI M2 b 2 = mI M b 2) (f8 : mI M2 b 8 = mI M b 8) (g3 : mI M2 m 3 = mI M m 3) (g34 : mI M2 m 34 = mI M m 34) (r : mR M2 = mR M) : Rest M2 b m := by
  obtain ⟨⟨i1, i2⟩, ⟨⟨la1, p1⟩, ⟨la2, p2⟩⟩, t, s, l, w⟩ := h
  refine ⟨⟨by rw [f2, g3]; exact i1, fun q => ?_⟩, ⟨⟨la1, p1.mR r⟩, ⟨la2, p2.mR r⟩⟩, hT, fun i hi => ?_, fun i hi => ?_, ?_⟩
  · rw [g3] at q
    rw [e (m + 2) (by omega)]
    exact (i2 q).mem (fun c h1 h2 h3 => e c (by omega)) (by rw [r])
  · rw [e (b + 232 + 3 * i) (by omega), e (b + 233 + 3 * i) (by omega), e (b + 234 + 3 * i) (by omega), e (m + 4) (by omega), e (m + 5) (by omega), e (m + 6) (by omega)]
    exact s i hi
  · rw [e (b + 245 + 4 * i) (by omega), e (b + 246 + 4 * i) (by omega), e (b + 247 + 4 * i) (by omega), e (b + 248 + 4 * i) (by omega), e (m + 7) (by omega), e (m + 8) (by omega), e (m + 9) (by omega), e (m + 10) (by omega), e (m + 11) (by omega)]
    exact l i hi
  · unfold WaR
    rw [f8, g34, e (b + 265) (by omega), e (m + 21) (by omega)]
    exact w
/-- the class takes up a text -/
def AdTQ (a b1 nx L : Nat) (M M2 : Mm) (r : Int32) : Prop := r = nI nx ∧ (∀ c, c < a ∨ a + 17 < c → mI M2 c = mI M c) ∧ mR M2 = mR M ∧ mI M2 a 5 = nI (nx + 1) ∧ mI M2 (a + 1) = upd (mI M (a + 1)) nx (mI M b1 6) ∧ mI M2 (a + 2) = upd (mI M (a + 2)) nx (mI M b1 7) ∧ mI M2 (a + 3) = upd (mI M (a + 3)) nx (mI M b1 8) ∧ mI M2 (a + 17) = upd (mI M (a + 17)) nx (nI L) ∧ (∀ t, t < 12 → t ≠ nx → mI M2 (a + 5 + t) = mI M (a + 5 + t)) ∧ ∀ j, j < L → mI M2 (a + 5 + nx) j = mI M (b1 + 2) j
theorem cp_X9_add (G : Gl) (d : Nat) (hd : 1 ≤ d) (X : Sh) (M : Mm) (a b1 nx L : Nat) (hS : Sh8 X a) (hS1 : Sh7 X b1) (hab : a + 20 ≤ b1) (h5 : mI M a 5 = nI nx) (hnx : nx ≤ 12) (h10 : mI M b1 10 = nI L) (hL : L ≤ 96) : Cn G m_X9_add d [.ref a, .ref b1] X M (fun M2 r => (nx < 12 → AdTQ a b1 nx L M M2 r) ∧ (nx = 12 → M2 = M ∧ r = -1000000003)) := by
  obtain ⟨d, rfl⟩ : ∃ d1, d = d1 + 1 := ⟨d - 1, by omega⟩
  refine Cn.of (by decide) (Nat.le_of_ble_eq_true rfl) (bX9_add_0 hS hS1 ?_)
  rw [h5]
  refine ⟨fun q => ?_, fun q => ⟨fun y => absurd ((nI_ltI (b := 12) (by omega) (by omega)).mpr y) q, fun _ => ⟨rfl, rfl⟩⟩⟩
  have lt := (nI_ltI (b := 12) (by omega) (by omega)).mp q
  intro v2 e2
  refine ⟨nx, e2, lt, ?_⟩
  intro M6 e6 M7 e7 M8 e8 M9 e9
  have o9 : ∀ c, c < a + 1 ∨ (a + 3 < c ∧ c ≠ a + 17) → mI M9 c = mI M c := fun c hc => by rw [e9, mI_sI, up2_off _ _ _ (by omega), e8, mI_sI, up2_off _ _ _ (by omega), e7, mI_sI, up2_off _ _ _ (by omega), e6, mI_sI, up2_off _ _ _ (by omega)]
  have b8 : mI M8 b1 10 = nI L := by rw [e8, mI_sI, up2_off _ _ _ (by omega), e7, mI_sI, up2_off _ _ _ (by omega), e6, mI_sI, up2_off _ _ _ (by omega), h10]
  have b7 : mI M7 b1 8 = mI M b1 8 := by rw [e7, mI_sI, up2_off _ _ _ (by omega), e6, mI_sI, up2_off _ _ _ (by omega)]
  have b6 : mI M6 b1 7 = mI M b1 7 := by rw [e6, mI_sI, up2_off _ _ _ (by omega)]
  refine ⟨L, by rw [o9 b1 (by omega), h10], by omega, by omega, ?_⟩
  intro M14 e14 M15 e15
  refine ⟨fun _ => ⟨e2, ?_, ?_, ?_, ?_, ?_, ?_, ?_, ?_, ?_⟩, fun y => absurd y (by omega)⟩
  · intro c hc
    rw [e15, mI_sI, up2_off _ _ _ (by omega), e14, sC_off _ _ _ _ _ _ (by omega), o9 c (by omega)]
  · rw [e15, e14, e9, e8, e7, e6]
    rfl
  · rw [e15, mI_sI, up2_same, e14, sC_off _ _ _ _ _ _ (by omega), o9 a (by omega), h5, nI_1]
  · rw [e15, mI_sI, up2_off _ _ _ (by omega), e14, sC_off _ _ _ _ _ _ (by omega), e9, mI_sI, up2_off _ _ _ (by omega), e8, mI_sI, up2_off _ _ _ (by omega), e7, mI_sI, up2_off _ _ _ (by omega), e6, mI_sI, up2_row]
  · rw [e15, mI_sI, up2_off _ _ _ (by omega), e14, sC_off _ _ _ _ _ _ (by omega), e9, mI_sI, up2_off _ _ _ (by omega), e8, mI_sI, up2_off _ _ _ (by omega), e7, mI_sI, up2_row, b6, e6, mI_sI, up2_off _ _ _ (by omega)]
  · rw [e15, mI_sI, up2_off _ _ _ (by omega), e14, sC_off _ _ _ _ _ _ (by omega), e9, mI_sI, up2_off _ _ _ (by omega), e8, mI_sI, up2_row, b7, e7, mI_sI, up2_off _ _ _ (by omega), e6, mI_sI, up2_off _ _ _ (by omega)]
  · rw [e15, mI_sI, up2_off _ _ _ (by omega), e14, sC_off _ _ _ _ _ _ (by omega), e9, mI_sI, up2_row, b8, e8, mI_sI, up2_off _ _ _ (by omega), e7, mI_sI, up2_off _ _ _ (by omega), e6, mI_sI, up2_off _ _ _ (by omega)]
  · intro t ht hne
    rw [e15, mI_sI, up2_off _ _ _ (by omega), e14, sC_off _ _ _ _ _ _ (by omega), o9 _ (by omega)]
  · intro j hj
    rw [e15, mI_sI, up2_off _ _ _ (by omega), e14, sC_row, cpy0 hj, o9 _ (by omega)]
theorem dp_rw {σ : Nat → Int32} {B : Nat} : ∀ (k : Nat) (O : List (Nat × Nat)), RwIs σ B O → k ≤ O.length → dp_run σ B k = dpO (O.take k)
  | 0, O, _, _ => rfl
  | k + 1, O, h, hk => by
    have ih := dp_rw k O h (by omega)
    have h1 := h k (by omega)
    show (dp_run σ B k).bind (dp_step (σ (B + 2 * k)) (σ (B + 2 * k + 1))) = _
    rw [ih, h1.1, h1.2, List.take_add_one, List.getElem?_eq_getElem (by omega)]
    show _ = dpO (O.take k ++ [O[k]])
    rw [dpO_snoc, List.getD_eq_getElem?_getD, List.getElem?_eq_getElem (by omega)]
    rfl
theorem T_ok.of {σ : Nat → Int32} {t key : Nat} {O : List (Nat × Nat)} (hk : σ (340 + 200 * t) = nI key) (hL : σ (342 + 200 * t) = nI O.length) (hR : RwIs σ (344 + 200 * t) O) (hA : AOK key O) (hd : dpO O = some 1) (hl : O.length ≤ 96) : T_ok σ t := by
  have h1 : 1 ≤ O.length := by
    cases O with
    | nil => exact absurd hd (by decide)
    | cons x O => exact Nat.succ_le_succ (Nat.zero_le _)
  refine ⟨O.length, hL, h1, hl, ?_, fun k hk2 => ?_⟩
  · rw [dp_rw O.length O hR (Nat.le_refl _), List.take_length]
    exact hd
  · obtain ⟨g1, g2⟩ := hR k hk2
    rw [g1, g2, hk]
    refine hA _ ?_
    rw [List.getD_eq_getElem?_getD, List.getElem?_eq_getElem hk2]
    exact List.getElem_mem hk2
theorem neg100 (x : Int32) : (-100 : Int32) - x = (-100) - x := rfl
theorem case_text (G : Gl) (d : Nat) (hd : 70 ≤ d) (X : Sh) (b m : Nat) (hS : Sh9 X b) (hM : Sh10 X m) (hbm : b + 266 ≤ m) : Case G d X b m m_X10_text m_X11_text [] := by
  intro M hs
  obtain ⟨d, rfl⟩ : ∃ d1, d = d1 + 1 := ⟨d - 1, by omega⟩
  obtain ⟨⟨nb, nl, nx, nt, nd, la, hx⟩, hr⟩ := id hs
  obtain ⟨n, n96, t1, t2, t3⟩ := hr.2.2.1
  have w2 := hx.1.2.2.2.2.1
  have n12 := hx.1.2.2.2.2.2.1
  obtain ⟨c, hc⟩ : ∃ c : Nat → Nat, ∀ i, i < n → c i ≤ 255 ∧ mI M (m + 17) i = nI (c i) := by
    refine ⟨fun i => (mI M (m + 17) i).toInt.toNat, fun i hi => ?_⟩
    obtain ⟨x, x1, x2⟩ := (t3 i hi).2
    have e : (mI M (m + 17) i).toInt.toNat = x := by
      rw [x2, nI_toInt (by omega)]
      rfl
    show (mI M (m + 17) i).toInt.toNat ≤ 255 ∧ mI M (m + 17) i = nI (mI M (m + 17) i).toInt.toNat
    rw [e]
    exact ⟨x1, x2⟩
  have hB7 : BYc M (b + 227) c n := ⟨t1, n96, fun i hi => ⟨by rw [show b + 227 + 1 = b + 228 by omega, (t3 i hi).1]; exact (hc i hi).2, (hc i hi).1⟩⟩
  have hBm : BY M m c n := ⟨t2, n96, fun i hi => ⟨(hc i hi).2, (hc i hi).1⟩⟩
  have hcc : ∀ j, j < n → c j ≤ 255 := fun j hj => (hc j hj).1
  have S7 := sh9_S_tape hS
  have S8 : Sh8 X (b + 63) := sh2_S_texts (sh9_S_house hS)
  obtain ⟨k, o, hH⟩ := Head.ex c n
  have hTk := hH.tv
  have parse : ∀ (M6 : Mm), (∀ p, m ≤ p → mI M6 p = mI M p) → Cn G m_X11_parse d [.ref m] X M6 (PRes c n m (lay0 nx) k o M6) := fun M6 hp => cp_X11_parse G d (by omega) X M6 m n nx c k o hM ⟨by rw [hp m (by omega)]; exact hBm.1, n96, fun i hi => by rw [hp (m + 17) (by omega)]; exact hBm.2.2 i hi⟩ hH (by rw [hp (m + 1) (by omega)]; exact w2) n12
  have lay : lay0 nx = 344 + 200 * nx ∨ (lay0 nx = 2750 ∧ nx = 12) := by
    unfold lay0
    split
    · exact Or.inr ⟨rfl, by omega⟩
    · exact Or.inl rfl
  -- both answer a fault
  have fault : ∀ (M3 M6 : Mm) (p : Nat), RF (b + 227) M M3 → M6 = sI M3 (b + 227) 1 0 → ∀ (M9 : Mm), FP m (lay0 nx) M6 M9 → Sim M9 b m := by
    intro M3 M6 p hF e6 M9 hP
    have o6 : ∀ q, q ≠ b + 227 → q ≠ b + 229 → q ≠ b + 230 → mI M6 q = mI M q := fun q h1 h2 h3 => by rw [e6, mI_sI, up2_off _ _ _ h1, hF.1 q h1 (by omega) (by omega)]
    have o9 : ∀ q, q ≠ b + 227 → q ≠ b + 229 → q ≠ b + 230 → q ≠ m → q ≠ m + 1 → mI M9 q = mI M q := fun q h1 h2 h3 h4 h5 => by rw [hP.1 q h4 h5, o6 q h1 h2 h3]
    have r9 : mR M9 = mR M := by
      rw [hP.2.2.2.2, e6]
      exact hF.2
    have om : ∀ j, j < 19 ∨ 29 < j → mI M9 m j = mI M m j := fun j hj => by rw [hP.2.1 j hj, o6 m (by omega) (by omega) (by omega)]
    refine ⟨⟨nb, nl, nx, nt, nd, la, hx.eqx (fun q hq => ?_) (fun q h1 h2 _ => o9 q (by omega) (by omega) (by omega) (by omega) (by omega)) (by rw [r9])⟩, hr.tap ⟨0, by omega, ?_, hP.2.2.1, fun i hi => absurd hi (by omega)⟩ (fun q hq => o9 q (by omega) (by omega) (by omega) (by omega) (by omega)) (by rw [o9 b (by omega) (by omega) (by omega) (by omega) (by omega)]) (by rw [o9 b (by omega) (by omega) (by omega) (by omega) (by omega)]) (om 3 (by omega)) (om 34 (by omega)) r9⟩
    · rw [hP.2.2.2.1 q (by omega), o6 (m + 1) (by omega) (by omega) (by omega)]
    · rw [hP.1 (b + 227) (by omega) (by omega), e6, mI_sI, up2_same]
      rfl
  -- a fault at p
  have no : ∀ (M3 : Mm) (p : Nat), p ≤ 96 → RF (b + 227) M M3 → (∀ (M6 M9 : Mm) (r : Int32), PRes c n m (lay0 nx) k o M6 M9 r → r = -1 ∧ mI M9 m 20 = nI p) → (∀ M6 : Mm, M6 = sI M3 (b + 227) 1 0 → ((nI p < 0 → (∃ q8 : Mm → Int32 → Prop, Cn G m_X9_add d [.ref ((b + 1) + 62), .ref (b + 227)] X M6 q8 ∧ ∀ M10 r11, q8 M10 r11 → Cn G m_X11_text (d + 1) [.ref m] X M10 (fun M2 r2 => r11 = r2 ∧ Sim M2 b m))) ∧ (¬ (nI p < 0) → Cn G m_X11_text (d + 1) [.ref m] X M6 (fun M2 r2 => (-100) - nI p = r2 ∧ Sim M2 b m)))) := by
    intro M3 p hp hF hres M6 e6
    refine ⟨fun q => absurd q (nI_pos (by omega)), fun _ => ?_⟩
    have hm : ∀ q, m ≤ q → mI M6 q = mI M q := fun q hq => by rw [e6, mI_sI, up2_off _ _ _ (by omega), hF.1 q (by omega) (by omega) (by omega)]
    refine Cn.of (by decide) (Nat.le_of_ble_eq_true rfl) (bX11_text_0 hM ⟨_, parse M6 hm, ?_⟩)
    intro M9 r4 hpr
    obtain ⟨g1, g2⟩ := hres M6 M9 r4 hpr
    subst g1
    exact ⟨fun q => absurd q (by decide), fun _ => ⟨by rw [g2], fault M3 M6 p hF e6 M9 hpr.1⟩⟩
  cases o with
  | none =>
    refine Cn.of (by decide) (Nat.le_of_ble_eq_true rfl) (bX10_text_0 hS ⟨_, cp_X8_readText_no G d (by omega) X M (b + 227) n c k S7 hB7 hH, ?_⟩)
    rintro M3 r4 ⟨hF, rfl⟩
    have kn := hTk.2.1
    refine no M3 (kB k) (by omega) hF (fun M6 M9 r hpr => ?_)
    rcases hpr.2 with ⟨_, g1, g2⟩ | ⟨key, s2, g1, _⟩
    · exact ⟨g1, g2⟩
    · cases g1
  | some key =>
    have hk := hH.key
    have T3 := (TV.next (c := c) hTk.2.2.1).1
    obtain ⟨s2, hRun, hend⟩ := crun_ends (c := c) (n := n) (key := key) n (tnext c n k, true, [], [], 0, 0, 0) T3 (Nat.sub_le _ _)
    refine Cn.of (by decide) (Nat.le_of_ble_eq_true rfl) (bX10_text_0 hS ⟨_, cp_X8_readText_at G d (by omega) X M (b + 227) n key c k s2 S7 hB7 hH hRun hend, ?_⟩)
    rintro M3 r4 ⟨hF, hres⟩
    have inv := hRun.inv T3 (Nat.zero_le _)
    have kn := inv.1.2.1
    have same : ∀ s3, Runs c n key (tnext c n k, true, [], [], 0, 0, 0) s3 → (Stuck c key s3 ∨ Done s3) → s3 = s2 := by
      rintro s3 ⟨i, hi⟩ h3
      obtain ⟨j, hj⟩ := hRun
      exact crun_uniq hi hj h3 hend
    have apart : Stuck c key s2 → Done s2 → False := by
      intro y1 y2
      rcases y1 with y | y
      · exact y.1 y2.1
      · rcases y.2 with z | z
        · rw [y2.2.1] at z
          cases z
        · have := y2.2.2
          omega
    rcases hres with ⟨hSt, rfl⟩ | ⟨hDn, rfl, h6, h7, h8, hHO⟩
    · refine no M3 (kB s2.1) (by omega) hF (fun M6 M9 r hpr => ?_)
      rcases hpr.2 with ⟨g1, _⟩ | ⟨key2, s3, g1, g2, g3⟩
      · cases g1
      · cases g1
        rcases g3 with ⟨g3, g4, g5⟩ | ⟨g3, _⟩
        · rw [same s3 g2 (Or.inl g3)] at g5
          exact ⟨g4, g5⟩
        · rw [same s3 g2 (Or.inr g3)] at g3
          exact (apart hSt g3).elim
    · intro M6 e6
      refine ⟨fun _ => ?_, fun q => absurd (by decide) q⟩
      have o6 : ∀ q, q ≠ b + 227 → q ≠ b + 229 → q ≠ b + 230 → mI M6 q = mI M q := fun q h1 h2 h3 => by rw [e6, mI_sI, up2_off _ _ _ h1, hF.1 q h1 (by omega) (by omega)]
      have f6 : ∀ j, j ≠ 1 → mI M6 (b + 227) j = mI M3 (b + 227) j := fun j hj => by rw [e6, mI_sI, up2_k _ _ _ hj]
      have r6 : mR M6 = mR M := by
        rw [e6]
        exact hF.2
      have fln := fl_len (r := 1) (b := true) (H := s2.2.2.1) (O := s2.2.2.2.1)
      have L96 : (fl 1 true s2.2.2.1 s2.2.2.2.1).2.length ≤ 96 := by
        have := inv.2.1
        omega
      refine ⟨_, cp_X9_add G d (by omega) X M6 (b + 63) (b + 227) nx (fl 1 true s2.2.2.1 s2.2.2.2.1).2.length S8 S7 (by omega) (by rw [o6 (b + 63) (by omega) (by omega) (by omega)]; exact hx.2.2.2.1.1) n12 (by rw [f6 10 (by omega)]; exact hHO.1) L96, ?_⟩
      rintro M10 r11 ⟨a1, a2⟩
      have hm10 : ∀ q, m ≤ q → mI M10 q = mI M q := by
        intro q hq
        by_cases y : nx = 12
        · rw [(a2 y).1, o6 q (by omega) (by omega) (by omega)]
        · rw [(a1 (by omega)).2.1 q (by omega), o6 q (by omega) (by omega) (by omega)]
      refine Cn.of (by decide) (Nat.le_of_ble_eq_true rfl) (bX11_text_0 hM ⟨_, parse M10 hm10, ?_⟩)
      intro M13 r4 hpr
      obtain ⟨hP, hpr⟩ := hpr
      rcases hpr with ⟨g1, _⟩ | ⟨key2, s3, g1, g2, g3⟩
      · cases g1
      cases g1
      rcases g3 with ⟨g3, _⟩ | ⟨g3, rfl, O, gf, g27, gR, g29, gA, gd, gl⟩
      · rw [same s3 g2 (Or.inl g3)] at g3
        exact (apart g3 hDn).elim
      rw [same s3 g2 (Or.inr g3)] at gf g29
      rw [gf] at hHO a1 L96
      have hHO10 := hHO.1
      have hHOc := hHO.2.1
      have s13 : mI M13 (m + 1) 2 = nI nx := by rw [hP.2.2.2.1 2 (by omega), hm10 (m + 1) (by omega), w2]
      refine ⟨fun _ => ?_, fun q => absurd ((nI_leI (a := 0) (by omega) (by omega)).mpr (by omega)) q⟩
      rw [s13]
      by_cases y : nx = 12
      · refine ⟨fun q => absurd (by rw [y]; rfl) q, fun _ => ⟨(a2 y).2, ?_⟩⟩
        have e10 := (a2 y).1
        rw [e10] at hP
        exact fault M3 M6 0 hF e6 M13 hP
      · refine ⟨fun _ => ?_, fun q => absurd ((nI_inj (b := 12) (by omega) (by omega)).mp q) y⟩
        have lt : nx < 12 := by omega
        have lay1 : lay0 nx = 344 + 200 * nx := by
          rcases lay with z | z
          · exact z
          · omega
        obtain ⟨q1, q2, q3, q4, q5, q6, q7, q8, q9, q10⟩ := a1 lt
        intro v8 e8
        have e8 : v8 = nI (340 + 200 * nx) := by rw [e8, n_lit 340, n_lit 200, pk_mul, nI_add, Nat.mul_comm]
        subst e8
        refine ⟨340 + 200 * nx, Int32.add_zero _, by omega, ?_⟩
        intro M16 e16
        refine ⟨341 + 200 * nx, (nI_1 _).trans (congrArg nI (by omega)), by omega, ?_⟩
        intro M17 e17
        refine ⟨342 + 200 * nx, (by rw [n_lit 2, nI_add]; exact congrArg nI (by omega)), by omega, ?_⟩
        intro M20 e20 M21 e21
        have k16 : ∀ q, q ≠ m + 1 → mI M16 q = mI M13 q := fun q hq => by rw [e16, mI_sI, up2_off _ _ _ hq]
        have k17 : ∀ q, q ≠ m + 1 → mI M17 q = mI M16 q := fun q hq => by rw [e17, mI_sI, up2_off _ _ _ hq]
        have k20 : ∀ q, q ≠ m + 1 → mI M20 q = mI M17 q := fun q hq => by rw [e20, mI_sI, up2_off _ _ _ hq]
        have k21 : ∀ q, q ≠ m + 1 → mI M21 q = mI M13 q := fun q hq => by rw [e21, mI_sI, up2_off _ _ _ hq, k20 q hq, k17 q hq, k16 q hq]
        have s20 : mI M20 (m + 1) 2 = nI nx := by rw [e20, mI_sI, up2_k _ _ _ (by omega), e17, mI_sI, up2_k _ _ _ (by omega), e16, mI_sI, up2_k _ _ _ (by omega), s13]
        have t2b : mI M21 (m + 1) 2 = nI (nx + 1) := by rw [e21, mI_sI, up2_same, s20, nI_1]
        have row : ∀ q, q ≠ 2 → q ≠ 340 + 200 * nx → q ≠ 341 + 200 * nx → q ≠ 342 + 200 * nx → mI M21 (m + 1) q = mI M13 (m + 1) q := fun q h1 h2 h3 h4 => by rw [e21, mI_sI, up2_k _ _ _ h1, e20, mI_sI, up2_k _ _ _ h4, e17, mI_sI, up2_k _ _ _ h3, e16, mI_sI, up2_k _ _ _ h2]
        have u340 : mI M21 (m + 1) (340 + 200 * nx) = nI key := by rw [e21, mI_sI, up2_k _ _ _ (by omega), e20, mI_sI, up2_k _ _ _ (by omega), e17, mI_sI, up2_k _ _ _ (by omega), e16, mI_sI, up2_same]
        have u341 : mI M21 (m + 1) (341 + 200 * nx) = nI s2.2.2.2.2.2.2 := by rw [e21, mI_sI, up2_k _ _ _ (by omega), e20, mI_sI, up2_k _ _ _ (by omega), e17, mI_sI, up2_same, k16 m (by omega), g29]
        have u342 : mI M21 (m + 1) (342 + 200 * nx) = nI O.length := by rw [e21, mI_sI, up2_k _ _ _ (by omega), e20, mI_sI, up2_same, k17 m (by omega), k16 m (by omega), g27]
        have hR21 : RwIs (mI M21 (m + 1)) (344 + 200 * nx) O := fun i hi => by
          have g := gR i hi
          rw [lay1] at g
          rw [row _ (by omega) (by omega) (by omega) (by omega), row _ (by omega) (by omega) (by omega) (by omega)]
          exact g
        have ok := T_ok.of u340 u342 hR21 gA gd gl
        have z10 : ∀ q, q < b + 63 ∨ b + 80 < q → q ≠ b + 227 → q ≠ b + 229 → q ≠ b + 230 → q ≠ m → q ≠ m + 1 → mI M21 q = mI M q := fun q h0 h1 h2 h3 h4 h5 => by rw [k21 q h5, hP.1 q h4 h5, q2 q (by omega), o6 q h1 h2 h3]
        have zt : ∀ q, b + 63 ≤ q → q ≤ b + 80 → mI M21 q = mI M10 q := fun q h1 h2 => by rw [k21 q (by omega), hP.1 q (by omega) (by omega)]
        have r21 : mR M21 = mR M := by
          rw [e21, e20, e17, e16]
          exact hP.2.2.2.2.trans (q3.trans r6)
        have om : ∀ j, j < 19 ∨ 29 < j → mI M21 m j = mI M m j := fun j hj => by rw [k21 m (by omega), hP.2.1 j hj, hm10 m (by omega)]
        have eσ : ∀ q, q < 340 + 200 * nx → q ≠ 2 → mI M21 (m + 1) q = mI M (m + 1) q := fun q h1 h2 => by rw [row q h2 (by omega) (by omega) (by omega), hP.2.2.2.1 q (by omega), hm10 (m + 1) (by omega)]
        refine ⟨by rw [q1, t2b, nI_pred], ⟨nb, nl, nx + 1, nt, nd, la, hx.tx (fun q h1 h2 => eσ q (by omega) h2) t2b (by omega) (fun q h1 h2 _ h4 => z10 q (by omega) (by omega) (by omega) (by omega) (by omega) (by omega)) (by rw [r21]) ⟨?_, fun t ht => ?_⟩⟩, hr.tap ⟨0, by omega, ?_, ?_, fun i hi => absurd hi (by omega)⟩ (fun q hq => z10 q (by omega) (by omega) (by omega) (by omega) (by omega) (by omega)) (by rw [z10 b (by omega) (by omega) (by omega) (by omega) (by omega) (by omega)]) (by rw [z10 b (by omega) (by omega) (by omega) (by omega) (by omega) (by omega)]) (om 3 (by omega)) (om 34 (by omega)) r21⟩
        · rw [zt _ (by omega) (by omega)]
          exact q4
        · by_cases et : t = nx
          · subst et
            have c6 : mI M6 (b + 227) 6 = nI (kc key) := by rw [f6 6 (by omega), h6]
            have c7 : mI M6 (b + 227) 7 = (if key ≤ 5 then nI key else -1000000005) := by rw [f6 7 (by omega), h7]
            have c8 : mI M6 (b + 227) 8 = nI s2.2.2.2.2.2.2 := by rw [f6 8 (by omega), h8]
            refine ⟨⟨key, hk, u340, ?_, ?_⟩, ?_, ?_, ok, fun j hj hj2 => ?_⟩
            · rw [zt _ (by omega) (by omega), show b + 1 + 62 + 1 = b + 63 + 1 by omega, q5, upd_eq, c6]
              rfl
            · rw [zt _ (by omega) (by omega), show b + 1 + 62 + 2 = b + 63 + 2 by omega, q6, upd_eq, c7]
            · rw [zt _ (by omega) (by omega), show b + 1 + 62 + 3 = b + 63 + 3 by omega, q7, upd_eq, c8, u341]
            · rw [zt _ (by omega) (by omega), show b + 1 + 62 + 17 = b + 63 + 17 by omega, q8, upd_eq, u342]
            · rw [u342] at hj
              have jl := (nI_ltI (by omega) (by omega)).mp hj
              obtain ⟨v1, v2⟩ := hR21 j jl
              rw [v1, v2, zt _ (by omega) (by omega), show b + 1 + 62 + 5 + t = b + 63 + 5 + t by omega, q10 j jl, show b + 227 + 2 = b + 229 by omega]
              have e229 : mI M6 (b + 229) = mI M3 (b + 227 + 2) := by
                rw [e6, mI_sI, up2_off _ _ _ (by omega)]
              rw [e229]
              exact hHOc j jl
          · have tl : t < nx := by omega
            refine (hx.2.2.2.1.2 t tl).congX tl (fun q h1 h2 => eσ q h2 (by omega)) ?_ ?_ ?_ ?_ ?_
            · rw [zt _ (by omega) (by omega), show b + 1 + 62 + 1 = b + 63 + 1 by omega, q5, upd_ne et, o6 _ (by omega) (by omega) (by omega)]
            · rw [zt _ (by omega) (by omega), show b + 1 + 62 + 2 = b + 63 + 2 by omega, q6, upd_ne et, o6 _ (by omega) (by omega) (by omega)]
            · rw [zt _ (by omega) (by omega), show b + 1 + 62 + 3 = b + 63 + 3 by omega, q7, upd_ne et, o6 _ (by omega) (by omega) (by omega)]
            · rw [zt _ (by omega) (by omega), show b + 1 + 62 + 17 = b + 63 + 17 by omega, q8, upd_ne et, o6 _ (by omega) (by omega) (by omega)]
            · rw [zt _ (by omega) (by omega), show b + 1 + 62 + 5 + t = b + 63 + 5 + t by omega, q9 t (by omega) et, o6 _ (by omega) (by omega) (by omega)]
        · rw [k21 _ (by omega), hP.1 _ (by omega) (by omega), q2 _ (by omega), e6, mI_sI, up2_same]
          rfl
        · rw [k21 m (by omega)]
          exact hP.2.2.1
