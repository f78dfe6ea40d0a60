/-! calls: cast, layer, textTold, why, ask -/
/-- the house against a row that says another furnace -/
theorem HSx.furn {M M2 : Mm} {h nb nl nx nt nd nl2 : Nat} {σ τ : Nat → Int32} {la la2 : Nat → Nat} (hs : HSx M h σ nb nl nx nt nd la) (e : ∀ k, k = 0 ∨ (2 ≤ k ∧ k ≤ 8 ∧ k ≠ 5) ∨ (20 ≤ k ∧ k < 60) ∨ 300 ≤ k → τ k = σ k) (t1 : τ 1 = nI nl2) (hn : nl2 ≤ 24) (hW : FW τ nl2) (hL : LBn τ nl2 nb) (hH : HIn τ) (hF : FR M2 (h + 8) τ nl2 la2) (eM : ∀ c, h + 1 ≤ c → c ≤ h + 85 → c < h + 8 ∨ h + 61 < c → c ≠ h + 80 → c ≠ h + 81 → mI M2 c = mI M c) : HSx M2 h τ nb nl2 nx nt nd la2 := by
  obtain ⟨hW0, hB, _, hT, hD, hR⟩ := hs
  obtain ⟨w0, w1, w2, w3, w4, w5, w6, w7, w8, w9, wb, wf, wl, wt, wd, sl, g, s1, s2, s3, s4, s5⟩ := hW0
  refine ⟨⟨by rw [e _ (by omega), w0], w1, t1, hn, by rw [e _ (by omega), w4], w5, by rw [e _ (by omega), w6], w7, by rw [e _ (by omega), w8], w9, fun b hb => ?_, hW, hL, fun k hk => by rw [e _ (by omega)]; exact wt k hk, fun i hi => by rw [e _ (by omega)]; exact wd i hi, sl, g, s1, ⟨s2.1, hH⟩, s3, by rw [e _ (by omega), s4], by rw [e _ (by omega), s5]⟩, ?_, hF, ?_, ?_, fun k hk => ?_⟩
  · obtain ⟨k, sh, v, s, hk, hsh, hv1, hv, hs9, e0, e1, e3, e4⟩ := wb b hb
    exact ⟨k, sh, v, s, hk, hsh, hv1, hv, hs9, by rw [e _ (by omega), e0], by rw [e _ (by omega), e1], by rw [e _ (by omega), e3], by rw [e _ (by omega), e4]⟩
  · have := hB.mem (M2 := M2) (fun c h1 h2 => eM c (by omega) (by omega) (by omega) (by omega) (by omega))
    obtain ⟨p1, p2, p3, p4⟩ := this
    refine ⟨p1, by rw [e _ (by omega)]; exact p2, fun i hi => ?_, fun k hk => by rw [e _ (by omega)]; exact p4 k hk⟩
    rw [e _ (by omega), e _ (by omega), e _ (by omega), e _ (by omega), e _ (by omega)]
    exact p3 i hi
  · exact (hT.cong (fun k hk => e k (by omega))).mem w5 (fun c h1 h2 => eM c (by omega) (by omega) (by omega) (by omega) (by omega))
  · refine ⟨by rw [eM _ (by omega) (by omega) (by omega) (by omega) (by omega)]; exact hD.1, fun i hi => ?_⟩
    rw [eM _ (by omega) (by omega) (by omega) (by omega) (by omega), eM _ (by omega) (by omega) (by omega) (by omega) (by omega), e _ (by omega), e _ (by omega)]
    exact hD.2 i hi
  · rw [eM _ (by omega) (by omega) (by omega) (by omega) (by omega), e _ (by omega)]
    exact hR k hk
def castV (v n i : Int32) : Int32 := v - (v.toInt64 * n.toInt64 / i.toInt64).toInt32
def s_cast (σ : Nat → Int32) (n : Int32) : Nat → Int32 := upd (upd (upd σ 10 (castV (σ 10) n (σ 9))) 11 (castV (σ 11) n (σ 9))) 9 (σ 9 - n)
theorem s_cast_o {σ : Nat → Int32} {n : Int32} {k : Nat} (h : k < 9 ∨ 11 < k) : s_cast σ n k = σ k := by
  unfold s_cast
  rw [upd_ne (by omega), upd_ne (by omega), upd_ne (by omega)]
theorem bX1_takeOut_0 {G : Gl} {d : Nat} {X : Sh} {M : Mm} {Q : Mm → Prop} {a : Nat} {x1 : Int32} (hS : Sh1 X a) (h : ((1 ≤ (mI M a 1) → (¬ ((mI M a 1).toInt64 = 0) ∧ (∀ M3 : Mm, M3 = sI M a 2 ((mI M a 2) - (((mI M a 2).toInt64 * x1.toInt64) / (mI M a 1).toInt64).toInt32) → (¬ ((mI M3 a 1).toInt64 = 0) ∧ (∀ M5 : Mm, M5 = sI M3 a 3 ((mI M3 a 3) - (((mI M3 a 3).toInt64 * x1.toInt64) / (mI M3 a 1).toInt64).toInt32) → (∀ M6 : Mm, M6 = sI M5 a 1 ((mI M5 a 1) - x1) → Q M6)))))) ∧ (¬ (1 ≤ (mI M a 1)) → Q M))) : Wv G m_X1_takeOut d 0 [(0, .ref a), (1, .int x1)] [] X M Q := by
  refine wp_aload_n 0 dX1_takeOut_0 rfl rfl ?_
  refine wp_getI dX1_takeOut_1 fl_RX1_15 rfl (sh1_K hS) ?_
  refine wp_iconst (v := 1) dX1_takeOut_4 rfl ?_
  refine wp_icmp_ge (tgt := 9) dX1_takeOut_5 (by decide) (fun c1 => ?_) (fun c1 => ?_)
  · replace h := h.1 c1
    refine wp_aload_n 0 dX1_takeOut_9 rfl rfl ?_
    refine wp_dup dX1_takeOut_10 rfl ?_
    refine wp_getI dX1_takeOut_11 fl_RX1_18 rfl (sh1_K hS) ?_
    refine wp_aload_n 0 dX1_takeOut_14 rfl rfl ?_
    refine wp_getI dX1_takeOut_15 fl_RX1_18 rfl (sh1_K hS) ?_
    refine wp_i2l dX1_takeOut_18 ?_
    refine wp_iload_n 1 dX1_takeOut_19 rfl rfl ?_
    refine wp_i2l dX1_takeOut_20 ?_
    refine wp_lmul dX1_takeOut_21 ?_
    refine wp_aload_n 0 dX1_takeOut_22 rfl rfl ?_
    refine wp_getI dX1_takeOut_23 fl_RX1_15 rfl (sh1_K hS) ?_
    refine wp_i2l dX1_takeOut_26 ?_
    obtain ⟨o2, h⟩ := h
    refine wp_ldiv dX1_takeOut_27 o2 ?_
    refine wp_l2i dX1_takeOut_28 ?_
    refine wp_isub dX1_takeOut_29 ?_
    refine wp_putI dX1_takeOut_30 fp_RX1_18 rfl (sh1_K hS) ?_
    refine wp_nm (fun M3 eM3 => ?_)
    replace h := h M3 eM3
    refine wp_aload_n 0 dX1_takeOut_33 rfl rfl ?_
    refine wp_dup dX1_takeOut_34 rfl ?_
    refine wp_getI dX1_takeOut_35 fl_RX1_21 rfl (sh1_K hS) ?_
    refine wp_aload_n 0 dX1_takeOut_38 rfl rfl ?_
    refine wp_getI dX1_takeOut_39 fl_RX1_21 rfl (sh1_K hS) ?_
    refine wp_i2l dX1_takeOut_42 ?_
    refine wp_iload_n 1 dX1_takeOut_43 rfl rfl ?_
    refine wp_i2l dX1_takeOut_44 ?_
    refine wp_lmul dX1_takeOut_45 ?_
    refine wp_aload_n 0 dX1_takeOut_46 rfl rfl ?_
    refine wp_getI dX1_takeOut_47 fl_RX1_15 rfl (sh1_K hS) ?_
    refine wp_i2l dX1_takeOut_50 ?_
    obtain ⟨o4, h⟩ := h
    refine wp_ldiv dX1_takeOut_51 o4 ?_
    refine wp_l2i dX1_takeOut_52 ?_
    refine wp_isub dX1_takeOut_53 ?_
    refine wp_putI dX1_takeOut_54 fp_RX1_21 rfl (sh1_K hS) ?_
    refine wp_nm (fun M5 eM5 => ?_)
    replace h := h M5 eM5
    refine wp_aload_n 0 dX1_takeOut_57 rfl rfl ?_
    refine wp_dup dX1_takeOut_58 rfl ?_
    refine wp_getI dX1_takeOut_59 fl_RX1_15 rfl (sh1_K hS) ?_
    refine wp_iload_n 1 dX1_takeOut_62 rfl rfl ?_
    refine wp_isub dX1_takeOut_63 ?_
    refine wp_putI dX1_takeOut_64 fp_RX1_15 rfl (sh1_K hS) ?_
    refine wp_nm (fun M6 eM6 => ?_)
    replace h := h M6 eM6
    exact wv_ret dX1_takeOut_67 rfl h
  · replace h := h.2 c1
    exact wv_ret dX1_takeOut_8 rfl h
theorem bX11_castOut_0 {G : Gl} {d : Nat} {X : Sh} {M : Mm} {Q : Mm → Prop} {a : Nat} {x1 : Int32} (hS : Sh10 X a) (h : Wv G m_X11_castOut d 2 [(0, .ref a), (1, .int x1), (2, .int 1)] [] X M Q) : Wv G m_X11_castOut d 0 [(0, .ref a), (1, .int x1)] [] X M Q := by
  refine wp_iconst (v := 1) dX11_castOut_0 rfl ?_
  refine wp_istore_n (lo2 := [(2, .int _), (0, .ref _), (1, .int _)]) dX11_castOut_1 rfl (by decide) rfl ?_
  exact Wp.sub [1, 2, 0] rfl h
theorem bX11_castOut_2 {G : Gl} {d : Nat} {X : Sh} {M : Mm} {Q : Mm → Prop} {a : Nat} {x1 : Int32} {x2 : Int32} (hS : Sh10 X a) (h : ((3 ≤ x2 → (∀ M2 : Mm, M2 = sI M (a + 1) 9 ((mI M (a + 1) 9) - x1) → Q M2)) ∧ (¬ (3 ≤ x2) → (∃ j3 : Nat, (9 + x2) = nI j3 ∧ j3 < 2950 ∧ (¬ ((mI M (a + 1) 9).toInt64 = 0) ∧ (∀ M7 : Mm, M7 = sI M (a + 1) j3 ((mI M (a + 1) j3) - (((mI M (a + 1) j3).toInt64 * x1.toInt64) / (mI M (a + 1) 9).toInt64).toInt32) → Wv G m_X11_castOut d 2 [(0, .ref a), (1, .int x1), (2, .int (x2 + 1))] [] X M7 Q)))))) : Wv G m_X11_castOut d 2 [(0, .ref a), (1, .int x1), (2, .int x2)] [] X M Q := by
  refine wp_iload_n 2 dX11_castOut_2 rfl rfl ?_
  refine wp_iconst (v := 3) dX11_castOut_3 rfl ?_
  refine wp_icmp_ge (tgt := 48) dX11_castOut_4 (by decide) (fun c1 => ?_) (fun c1 => ?_)
  · replace h := h.1 c1
    refine wp_aload_n 0 dX11_castOut_48 rfl rfl ?_
    refine wp_getR dX11_castOut_49 fl_RX11_7 rfl (sh10_K hS) (sh10_F_s hS) ?_
    refine wp_bipush (v := 9) dX11_castOut_52 rfl ?_
    refine wp_dup2_11 dX11_castOut_54 rfl rfl ?_
    refine wp_iald (n := 2950) dX11_castOut_55 (sh10_K_s hS) (sh10_N_s hS) (by decide) rfl (by decide) ?_
    refine wp_iload_n 1 dX11_castOut_56 rfl rfl ?_
    refine wp_isub dX11_castOut_57 ?_
    refine wp_iast (n := 2950) dX11_castOut_58 (sh10_K_s hS) (sh10_N_s hS) (by decide) rfl (by decide) ?_
    refine wp_nm (fun M2 eM2 => ?_)
    replace h := h M2 eM2
    exact wv_ret dX11_castOut_59 rfl h
  · replace h := h.2 c1
    refine wp_aload_n 0 dX11_castOut_7 rfl rfl ?_
    refine wp_getR dX11_castOut_8 fl_RX11_7 rfl (sh10_K hS) (sh10_F_s hS) ?_
    refine wp_bipush (v := 9) dX11_castOut_11 rfl ?_
    refine wp_iload_n 2 dX11_castOut_13 rfl rfl ?_
    refine wp_iadd dX11_castOut_14 ?_
    refine wp_dup2_11 dX11_castOut_15 rfl rfl ?_
    obtain ⟨j3, o4, o5, h⟩ := h
    refine wp_iald (n := 2950) dX11_castOut_16 (sh10_K_s hS) (sh10_N_s hS) (by decide) o4 o5 ?_
    refine wp_aload_n 0 dX11_castOut_17 rfl rfl ?_
    refine wp_getR dX11_castOut_18 fl_RX11_7 rfl (sh10_K hS) (sh10_F_s hS) ?_
    refine wp_bipush (v := 9) dX11_castOut_21 rfl ?_
    refine wp_iload_n 2 dX11_castOut_23 rfl rfl ?_
    refine wp_iadd dX11_castOut_24 ?_
    refine wp_iald (n := 2950) dX11_castOut_25 (sh10_K_s hS) (sh10_N_s hS) (by decide) o4 o5 ?_
    refine wp_i2l dX11_castOut_26 ?_
    refine wp_iload_n 1 dX11_castOut_27 rfl rfl ?_
    refine wp_i2l dX11_castOut_28 ?_
    refine wp_lmul dX11_castOut_29 ?_
    refine wp_aload_n 0 dX11_castOut_30 rfl rfl ?_
    refine wp_getR dX11_castOut_31 fl_RX11_7 rfl (sh10_K hS) (sh10_F_s hS) ?_
    refine wp_bipush (v := 9) dX11_castOut_34 rfl ?_
    refine wp_iald (n := 2950) dX11_castOut_36 (sh10_K_s hS) (sh10_N_s hS) (by decide) rfl (by decide) ?_
    refine wp_i2l dX11_castOut_37 ?_
    obtain ⟨o6, h⟩ := h
    refine wp_ldiv dX11_castOut_38 o6 ?_
    refine wp_l2i dX11_castOut_39 ?_
    refine wp_isub dX11_castOut_40 ?_
    refine wp_iast (n := 2950) dX11_castOut_41 (sh10_K_s hS) (sh10_N_s hS) (by decide) o4 o5 ?_
    refine wp_nm (fun M7 eM7 => ?_)
    replace h := h M7 eM7
    refine wp_iinc (v := x2 + 1) (lo2 := [(2, .int _), (0, .ref _), (1, .int _)]) dX11_castOut_42 (q := 2) rfl rfl (by decide) rfl ?_
    refine wp_goto (tgt := 2) dX11_castOut_45 (by decide) ?_
    exact Wp.sub [1, 2, 0] rfl h
theorem bX10_cast_0 {G : Gl} {d : Nat} {X : Sh} {M : Mm} {Q : Mm → Int32 → Prop} {a : Nat} {x1 : Int32} (hS : Sh9 X a) (h : ((1 ≤ x1 ∧ x1 ≤ 9999 → ((x1 ≤ (mI M ((a + 1) + 8) 1) → (∃ q3 : Mm → Prop, Cv G m_X1_takeOut d [.ref ((a + 1) + 8), .int x1] X M q3 ∧ ∀ M5, q3 M5 → Q M5 (mI M5 ((a + 1) + 8) 1))) ∧ (¬ (x1 ≤ (mI M ((a + 1) + 8) 1)) → Q M (-1000000002)))) ∧ (¬ (1 ≤ x1 ∧ x1 ≤ 9999) → Q M (-1000000001)))) : Wn G m_X10_cast (d + 1) 0 [(0, .ref a), (1, .int x1)] [] X M Q := by
  refine wp_iload_n 1 dX10_cast_0 rfl rfl ?_
  refine wp_iconst (v := 1) dX10_cast_1 rfl ?_
  refine wp_sipush (v := 9999) dX10_cast_2 rfl ?_
  refine wp_csip dX10_cast_5 ck_RX10_63 rfl (as := [.int x1, .int 1, .int 9999]) rfl rfl (Nat.le_of_ble_eq_true rfl) (cp_X10_isWithin G d X M x1 1 9999) ?_
  refine wp_ifB_ne (inferInstance) (tgt := 14) dX10_cast_8 (by decide) (fun c1 => ?_) (fun c1 => ?_)
  · replace h := h.1 c1
    refine wp_aload_n 0 dX10_cast_14 rfl rfl ?_
    refine wp_getR dX10_cast_15 fl_RX10_10 rfl (sh9_K hS) (sh9_F_house hS) ?_
    refine wp_getR dX10_cast_18 fl_RX10_117 rfl (sh2_K (sh9_S_house hS)) (sh2_F_furnace (sh9_S_house hS)) ?_
    refine wp_getI dX10_cast_21 fl_RX10_181 rfl (sh1_K (sh2_S_furnace (sh9_S_house hS))) ?_
    refine wp_iload_n 1 dX10_cast_24 rfl rfl ?_
    refine wp_icmp_ge (tgt := 31) dX10_cast_25 (by decide) (fun c2 => ?_) (fun c2 => ?_)
    · replace h := h.1 c2
      refine wp_aload_n 0 dX10_cast_31 rfl rfl ?_
      refine wp_getR dX10_cast_32 fl_RX10_10 rfl (sh9_K hS) (sh9_F_house hS) ?_
      refine wp_getR dX10_cast_35 fl_RX10_117 rfl (sh2_K (sh9_S_house hS)) (sh2_F_furnace (sh9_S_house hS)) ?_
      refine wp_iload_n 1 dX10_cast_38 rfl rfl ?_
      obtain ⟨q3, o4, h⟩ := h
      refine wp_cvv dX10_cast_39 ck_RX10_193 (sh1_K (sh2_S_furnace (sh9_S_house hS))) (as := [.int x1]) rfl rfl (Nat.le_of_ble_eq_true rfl) o4 (fun M5 o6 => ?_)
      replace h := h M5 o6
      refine wp_aload_n 0 dX10_cast_42 rfl rfl ?_
      refine wp_getR dX10_cast_43 fl_RX10_10 rfl (sh9_K hS) (sh9_F_house hS) ?_
      refine wp_getR dX10_cast_46 fl_RX10_117 rfl (sh2_K (sh9_S_house hS)) (sh2_F_furnace (sh9_S_house hS)) ?_
      refine wp_getI dX10_cast_49 fl_RX10_181 rfl (sh1_K (sh2_S_furnace (sh9_S_house hS))) ?_
      exact wn_iret dX10_cast_52 rfl h
    · replace h := h.2 c2
      refine wp_ldc dX10_cast_28 kc_RX10_116 ?_
      exact wn_iret dX10_cast_30 rfl h
  · replace h := h.2 c1
    refine wp_ldc dX10_cast_11 kc_RX10_67 ?_
    exact wn_iret dX10_cast_13 rfl h
theorem bX11_cast_0 {G : Gl} {d : Nat} {X : Sh} {M : Mm} {Q : Mm → Int32 → Prop} {a : Nat} {x1 : Int32} (hS : Sh10 X a) (h : ((1 ≤ x1 ∧ x1 ≤ 9999 → ((x1 ≤ (mI M (a + 1) 9) → (∃ q3 : Mm → Prop, Cv G m_X11_castOut d [.ref a, .int x1] X M q3 ∧ ∀ M5, q3 M5 → Q M5 (mI M5 (a + 1) 9))) ∧ (¬ (x1 ≤ (mI M (a + 1) 9)) → Q M (-1000000002)))) ∧ (¬ (1 ≤ x1 ∧ x1 ≤ 9999) → Q M (-1000000001)))) : Wn G m_X11_cast (d + 1) 0 [(0, .ref a), (1, .int x1)] [] X M Q := by
  refine wp_iload_n 1 dX11_cast_0 rfl rfl ?_
  refine wp_i2l dX11_cast_1 ?_
  refine wp_lconst (v := 1) dX11_cast_2 rfl ?_
  refine wp_ldc2 dX11_cast_3 kc_RX11_98 ?_
  refine wp_csip dX11_cast_6 ck_RX11_78 rfl (as := [.long x1.toInt64, .long 1, .long 9999]) rfl rfl (Nat.le_of_ble_eq_true rfl) (cp_X11_isIn G d X M x1 1 9999 (by decide) (by decide)) ?_
  refine wp_ifB_ne (inferInstance) (tgt := 15) dX11_cast_9 (by decide) (fun c1 => ?_) (fun c1 => ?_)
  · replace h := h.1 c1
    refine wp_aload_n 0 dX11_cast_15 rfl rfl ?_
    refine wp_getR dX11_cast_16 fl_RX11_7 rfl (sh10_K hS) (sh10_F_s hS) ?_
    refine wp_bipush (v := 9) dX11_cast_19 rfl ?_
    refine wp_iald (n := 2950) dX11_cast_21 (sh10_K_s hS) (sh10_N_s hS) (by decide) rfl (by decide) ?_
    refine wp_iload_n 1 dX11_cast_22 rfl rfl ?_
    refine wp_icmp_ge (tgt := 29) dX11_cast_23 (by decide) (fun c2 => ?_) (fun c2 => ?_)
    · replace h := h.1 c2
      refine wp_aload_n 0 dX11_cast_29 rfl rfl ?_
      refine wp_iload_n 1 dX11_cast_30 rfl rfl ?_
      obtain ⟨q3, o4, h⟩ := h
      refine wp_cvv dX11_cast_31 ck_RX11_209 (sh10_K hS) (as := [.int x1]) rfl rfl (Nat.le_of_ble_eq_true rfl) o4 (fun M5 o6 => ?_)
      replace h := h M5 o6
      refine wp_aload_n 0 dX11_cast_34 rfl rfl ?_
      refine wp_getR dX11_cast_35 fl_RX11_7 rfl (sh10_K hS) (sh10_F_s hS) ?_
      refine wp_bipush (v := 9) dX11_cast_38 rfl ?_
      refine wp_iald (n := 2950) dX11_cast_40 (sh10_K_s hS) (sh10_N_s hS) (by decide) rfl (by decide) ?_
      exact wn_iret dX11_cast_41 rfl h
    · replace h := h.2 c2
      refine wp_ldc dX11_cast_26 kc_RX11_153 ?_
      exact wn_iret dX11_cast_28 rfl h
  · replace h := h.2 c1
    refine wp_ldc dX11_cast_12 kc_RX11_100 ?_
    exact wn_iret dX11_cast_14 rfl h
theorem cp_X1_takeOut (G : Gl) (d : Nat) (X : Sh) (M : Mm) (f : Nat) (n : Int32) (hS : Sh1 X f) (h1 : 1 ≤ mI M f 1) : Cv G m_X1_takeOut d [.ref f, .int n] X M (fun M2 => M2 = sI (sI (sI M f 2 (castV (mI M f 2) n (mI M f 1))) f 3 (castV (mI M f 3) n (mI M f 1))) f 1 (mI M f 1 - n)) := by
  have h0 : ¬ (mI M f 1).toInt64 = 0 := lw_ne0 (ne0_of h1)
  refine Cv.of (by decide) (Nat.le_of_ble_eq_true rfl) (bX1_takeOut_0 hS ⟨fun _ => ⟨h0, ?_⟩, fun q => absurd h1 q⟩)
  intro M3 e3
  have k3 : ∀ k, k ≠ 2 → mI M3 f k = mI M f k := fun k hk => by rw [e3, mI_sI, up2_k _ _ _ hk]
  rw [k3 1 (by omega), k3 3 (by omega)]
  refine ⟨h0, ?_⟩
  intro M5 e5 M6 e6
  have k5 : mI M5 f 1 = mI M f 1 := by rw [e5, mI_sI, up2_k _ _ _ (by omega), k3 1 (by omega)]
  rw [e6, k5, e5, e3]
  rfl
theorem cp_X11_castOut (G : Gl) (d : Nat) (X : Sh) (M : Mm) (a : Nat) (n : Int32) (hS : Sh10 X a) (h1 : ¬ mI M (a + 1) 9 = 0) : Cv G m_X11_castOut d [.ref a, .int n] X M (fun M2 => mI M2 (a + 1) = s_cast (mI M (a + 1)) n ∧ (∀ c, c ≠ a + 1 → mI M2 c = mI M c) ∧ mR M2 = mR M) := by
  have h0 : ¬ (mI M (a + 1) 9).toInt64 = 0 := lw_ne0 h1
  refine Cv.of (by decide) (Nat.le_of_ble_eq_true rfl) (bX11_castOut_0 hS (bX11_castOut_2 hS ⟨fun q => absurd q (by decide), fun _ => ⟨10, rfl, by omega, h0, ?_⟩⟩))
  intro M7 e7
  have k7 : ∀ k, k ≠ 10 → mI M7 (a + 1) k = mI M (a + 1) k := fun k hk => by rw [e7, mI_sI, up2_k _ _ _ hk]
  refine bX11_castOut_2 hS ⟨fun q => absurd q (by decide), fun _ => ⟨11, rfl, by omega, by rw [k7 9 (by omega)]; exact h0, ?_⟩⟩
  intro M8 e8
  have k8 : mI M8 (a + 1) 9 = mI M (a + 1) 9 := by rw [e8, mI_sI, up2_k _ _ _ (by omega), k7 9 (by omega)]
  refine bX11_castOut_2 hS ⟨fun _ => ?_, fun q => absurd (by decide) q⟩
  intro M9 e9
  refine ⟨?_, fun c hc => ?_, ?_⟩
  · rw [e9, mI_sI, up2_row, k8, e8, mI_sI, up2_row, k7 9 (by omega), k7 11 (by omega), e7, mI_sI, up2_row]
    rfl
  · rw [e9, mI_sI, up2_off _ _ _ hc, e8, mI_sI, up2_off _ _ _ hc, e7, mI_sI, up2_off _ _ _ hc]
  · rw [e9, e8, e7]
    rfl
/-- iron is cast: the furnace -/
theorem FR.cast {M M2 : Mm} {f nl : Nat} {σ : Nat → Int32} {la : Nat → Nat} {n : Int32} (h : FR M f σ nl la) (hnl : nl ≤ 24) (hW : FW σ nl) (ef : mI M2 f = upd (upd (upd (mI M f) 2 (castV (mI M f 2) n (mI M f 1))) 3 (castV (mI M f 3) n (mI M f 1))) 1 (mI M f 1 - n)) (e : ∀ c, f < c → c ≤ f + 50 → mI M2 c = mI M c) (eR : mR M2 (f + 1) = mR M (f + 1)) : FR M2 f (s_cast σ n) nl la := by
  obtain ⟨hP, ⟨d0, d1, d2, d3, d5, d6⟩, hL⟩ := h
  refine ⟨⟨fun l hl => by rw [eR]; exact hP.1 l hl, hP.2⟩, ⟨?_, ?_, ?_, ?_, ?_, fun r hr => ?_⟩, fun l hl => ?_⟩
  · rw [ef, s_cast_o (by omega), upd_ne (by omega), upd_ne (by omega), upd_ne (by omega), d0]
  · unfold s_cast
    rw [ef, upd_eq, upd_eq, d1]
  · unfold s_cast
    rw [ef, upd_ne (show (2 : Nat) ≠ 1 by omega), upd_ne (show (2 : Nat) ≠ 3 by omega), upd_eq, upd_ne (show (10 : Nat) ≠ 9 by omega), upd_ne (show (10 : Nat) ≠ 11 by omega), upd_eq, d1, d2]
  · unfold s_cast
    rw [ef, upd_ne (show (3 : Nat) ≠ 1 by omega), upd_eq, upd_ne (show (11 : Nat) ≠ 9 by omega), upd_eq, d1, d3]
  · rw [ef, upd_ne (by omega), upd_ne (by omega), upd_ne (by omega), d5]
  · rw [e _ (by omega) (by omega), d6 r hr, bulkIn_cong hnl hr (fun k h1 h2 => s_cast_o (by omega))]
  · have := hP.at (l := l) (by omega)
    obtain ⟨b2, k, sh, t2, w, g, ρ, hb2, hk5, hsh, ht2, hw1, hw2, e0, _⟩ := hW l hl
    exact LD.move (hL l hl) e0 hb2 (s_cast_o (by omega)) (s_cast_o (by omega)) (fun k hk => s_cast_o (by omega)) (e _ (by omega) (by omega)) (e _ (by omega) (by omega))
theorem FW.cast {σ : Nat → Int32} {nl : Nat} {n : Int32} (h : FW σ nl) (hnl : nl ≤ 24) : FW (s_cast σ n) nl := fun l hl => (h l hl).move (fun k h1 h2 => s_cast_o (by omega)) (fun k hk => s_cast_o (by omega))
theorem case_cast (G : Gl) (d : Nat) (hd : 16 ≤ d) (X : Sh) (b m : Nat) (hS : Sh9 X b) (hM : Sh10 X m) (hbm : b + 266 ≤ m) (x1 : Int32) : Case G d X b m m_X10_cast m_X11_cast [.int x1] := by
  obtain ⟨d, rfl⟩ : ∃ d1, d = d1 + 1 := ⟨d - 1, by omega⟩
  intro M hs
  obtain ⟨⟨nb, nl, nx, nt, nd, la, hh⟩, hr⟩ := id hs
  obtain ⟨hW, hB, hF, hT, hD, hR⟩ := id hh
  obtain ⟨w0, w1, w2, w3, w4, w5, w6, w7, w8, w9, wb, wf, wl, wt, wd, ws⟩ := id hW
  obtain ⟨d0, d1, d2, d3, d5, d6⟩ := hF.2.1
  have d1' : mI M (b + 1 + 8) 1 = mI M (m + 1) 9 := d1
  by_cases h : 1 ≤ x1 ∧ x1 ≤ 9999
  · by_cases h2 : x1 ≤ mI M (m + 1) 9
    · have i1 : 1 ≤ mI M (b + 1 + 8) 1 := by
        rw [d1']
        exact Int32.le_trans h.1 h2
      refine Cn.of (by decide) (Nat.le_of_ble_eq_true rfl) (bX10_cast_0 hS ⟨fun _ => ⟨fun _ => ⟨_, cp_X1_takeOut G d X M (b + 1 + 8) x1 (sh2_S_furnace (sh9_S_house hS)) i1, ?_⟩, fun q => absurd (by rw [d1']; exact h2) q⟩, fun q => absurd h q⟩)
      intro M5 e5
      have m5 : ∀ c, c ≠ b + 1 + 8 → mI M5 c = mI M c := fun c hc => by rw [e5, mI_sI, up2_off _ _ _ hc, mI_sI, up2_off _ _ _ hc, mI_sI, up2_off _ _ _ hc]
      have f5 : mI M5 (b + 1 + 8) = upd (upd (upd (mI M (b + 1 + 8)) 2 (castV (mI M (b + 1 + 8) 2) x1 (mI M (b + 1 + 8) 1))) 3 (castV (mI M (b + 1 + 8) 3) x1 (mI M (b + 1 + 8) 1))) 1 (mI M (b + 1 + 8) 1 - x1) := by rw [e5, mI_sI, up2_row, mI_sI, up2_row, mI_sI, up2_row]
      have s5 : mI M5 (m + 1) = mI M (m + 1) := m5 _ (by omega)
      have R5 : mR M5 = mR M := by
        rw [e5]
        rfl
      have i9 : ¬ mI M5 (m + 1) 9 = 0 := by
        rw [s5, ← d1']
        exact ne0_of i1
      have v5 : mI M5 (b + 1 + 8) 1 = mI M (m + 1) 9 - x1 := by rw [f5, upd_eq, d1']
      rw [v5]
      refine Cn.of (by decide) (Nat.le_of_ble_eq_true rfl) (bX11_cast_0 hM ⟨fun _ => ⟨fun _ => ⟨_, cp_X11_castOut G d X M5 m x1 hM i9, ?_⟩, fun q => absurd (by rw [s5]; exact h2) q⟩, fun q => absurd h q⟩)
      rintro M6 ⟨e6, m6, R6⟩
      rw [s5] at e6
      refine ⟨by rw [e6]; rfl, ⟨nb, nl, nx, nt, nd, la, ?_⟩, hr.house hbm (fun c h4 h5 => by rw [m6 _ h5, m5 _ (by omega)]) (fun c _ => by rw [R6, R5])⟩
      rw [e6]
      refine hh.furn (fun k hk => s_cast_o (by omega)) (by rw [s_cast_o (by omega), w2]) w3 (wf.cast w3) (fun l hl => by rw [s_cast_o (by omega)]; exact wl l hl) (by obtain ⟨_, _, _, s2, _⟩ := ws; exact s2.2.cong (s_cast_o (by omega))) (hF.cast w3 wf ?_ (fun c h4 h5 => by rw [m6 _ (by omega), m5 _ (by omega)]) (by rw [R6, R5])) (fun c h4 h5 h6 h7 h8 => by rw [m6 _ (by omega), m5 _ (by omega)])
      rw [m6 _ (by omega), f5]
    · exact Cn.of (by decide) (Nat.le_of_ble_eq_true rfl) (bX10_cast_0 hS ⟨fun _ => ⟨fun q => absurd (by rw [d1'] at q; exact q) h2, fun _ => Cn.of (by decide) (Nat.le_of_ble_eq_true rfl) (bX11_cast_0 hM ⟨fun _ => ⟨fun q => absurd q h2, fun _ => ⟨rfl, hs⟩⟩, fun q => absurd h q⟩)⟩, fun q => absurd h q⟩)
  · exact Cn.of (by decide) (Nat.le_of_ble_eq_true rfl) (bX10_cast_0 hS ⟨fun q => absurd q h, fun _ => Cn.of (by decide) (Nat.le_of_ble_eq_true rfl) (bX11_cast_0 hM ⟨fun q => absurd q h, fun _ => ⟨rfl, hs⟩⟩)⟩)
theorem bX10_layer_0 {G : Gl} {d : Nat} {X : Sh} {M : Mm} {Q : Mm → Int32 → Prop} {a : Nat} {x1 : Int32} {x2 : Int32} (hS : Sh9 X a) (h : ((0 ≤ x1 ∧ x1 < mI M ((a + 1) + 8) 5 → (∃ j2 : Nat, x1 = nI j2 ∧ j2 < 24 ∧ (∃ la5 : Nat, mR M (((a + 1) + 8) + 1) j2 = some la5 ∧ Sh4 X la5 ∧ ((x2 = 0 → Q M (mI M la5 0)) ∧ (x2 = 1 → Q M (mI M la5 1)) ∧ (x2 = 2 → Q M (mI M la5 2)) ∧ (x2 = 3 → Q M (mI M la5 8)) ∧ (x2 ≠ 0 → x2 ≠ 1 → x2 ≠ 2 → x2 ≠ 3 → ((¬ (4 ≤ x2 ∧ x2 ≤ 8) → Q M (-1000000001)) ∧ (4 ≤ x2 ∧ x2 ≤ 8 → (∃ j13 : Nat, (x2 - 4) = nI j13 ∧ j13 < 5 ∧ Q M (mI M (la5 + 1) j13))))))))) ∧ (¬ (0 ≤ x1 ∧ x1 < mI M ((a + 1) + 8) 5) → Q M (-1000000001)))) : Wn G m_X10_layer (d + 1) 0 [(0, .ref a), (1, .int x1), (2, .int x2)] [] X M Q := by
  refine wp_aload_n 0 dX10_layer_0 rfl rfl ?_
  refine wp_getR dX10_layer_1 fl_RX10_10 rfl (sh9_K hS) (sh9_F_house hS) ?_
  refine wp_getR dX10_layer_4 fl_RX10_117 rfl (sh2_K (sh9_S_house hS)) (sh2_F_furnace (sh9_S_house hS)) ?_
  refine wp_iload_n 1 dX10_layer_7 rfl rfl ?_
  refine wp_cvip dX10_layer_8 ck_RX10_131 (sh1_K (sh2_S_furnace (sh9_S_house hS))) (as := [.int x1]) rfl rfl (Nat.le_of_ble_eq_true rfl) (cp_X1_has G d X M ((a + 1) + 8) x1 (sh2_S_furnace (sh9_S_house hS))) ?_
  refine wp_ifB_ne (inferInstance) (tgt := 17) dX10_layer_11 (by decide) (fun c1 => ?_) (fun c1 => ?_)
  · replace h := h.1 c1
    refine wp_aload_n 0 dX10_layer_17 rfl rfl ?_
    refine wp_getR dX10_layer_18 fl_RX10_10 rfl (sh9_K hS) (sh9_F_house hS) ?_
    refine wp_getR dX10_layer_21 fl_RX10_117 rfl (sh2_K (sh9_S_house hS)) (sh2_F_furnace (sh9_S_house hS)) ?_
    refine wp_getR dX10_layer_24 fl_RX10_132 rfl (sh1_K (sh2_S_furnace (sh9_S_house hS))) (sh1_F_layers (sh2_S_furnace (sh9_S_house hS))) ?_
    refine wp_iload_n 1 dX10_layer_27 rfl rfl ?_
    obtain ⟨j2, o3, o4, h⟩ := h
    obtain ⟨la5, o6, o7, h⟩ := h
    refine wp_rald (n := 24) dX10_layer_28 (sh1_K_layers (sh2_S_furnace (sh9_S_house hS))) (sh1_N_layers (sh2_S_furnace (sh9_S_house hS))) (by decide) o3 o4 o6 ?_
    refine wp_astore_n (lo2 := [(3, .ref _), (0, .ref _), (1, .int _), (2, .int _)]) dX10_layer_29 rfl (by decide) rfl ?_
    refine wp_iload_n 3 dX10_layer_30 rfl rfl ?_
    by_cases c8 : x2 = 0
    · replace h := h.1 c8
      refine wp_tblIn (tgt := 60) (off := 29) dX10_layer_31 (by rw [c8]; decide) (by rw [c8]; decide) (by rw [c8]; rfl) (by decide) ?_
      refine wp_aload_n 0 dX10_layer_60 rfl rfl ?_
      refine wp_getI dX10_layer_61 fl_RX10_136 rfl (sh4_K o7) ?_
      exact wn_iret dX10_layer_64 rfl h
    by_cases c9 : x2 = 1
    · replace h := h.2.1 c9
      refine wp_tblIn (tgt := 65) (off := 34) dX10_layer_31 (by rw [c9]; decide) (by rw [c9]; decide) (by rw [c9]; rfl) (by decide) ?_
      refine wp_aload_n 0 dX10_layer_65 rfl rfl ?_
      refine wp_getI dX10_layer_66 fl_RX10_141 rfl (sh4_K o7) ?_
      exact wn_iret dX10_layer_69 rfl h
    by_cases c10 : x2 = 2
    · replace h := h.2.2.1 c10
      refine wp_tblIn (tgt := 70) (off := 39) dX10_layer_31 (by rw [c10]; decide) (by rw [c10]; decide) (by rw [c10]; rfl) (by decide) ?_
      refine wp_aload_n 0 dX10_layer_70 rfl rfl ?_
      refine wp_getI dX10_layer_71 fl_RX10_144 rfl (sh4_K o7) ?_
      exact wn_iret dX10_layer_74 rfl h
    by_cases c11 : x2 = 3
    · replace h := h.2.2.2.1 c11
      refine wp_tblIn (tgt := 75) (off := 44) dX10_layer_31 (by rw [c11]; decide) (by rw [c11]; decide) (by rw [c11]; rfl) (by decide) ?_
      refine wp_aload_n 0 dX10_layer_75 rfl rfl ?_
      refine wp_getI dX10_layer_76 fl_RX10_146 rfl (sh4_K o7) ?_
      exact wn_iret dX10_layer_79 rfl h
    replace h := h.2.2.2.2 c8 c9 c10 c11
    have ec8 := ne_ti (z := 0) c8 rfl
    have ec9 := ne_ti (z := 1) c9 rfl
    have ec10 := ne_ti (z := 2) c10 rfl
    have ec11 := ne_ti (z := 3) c11 rfl
    refine wp_tblOut (tgt := 80) dX10_layer_31 (by omega) (by decide) ?_
    refine wp_iload_n 3 dX10_layer_80 rfl rfl ?_
    refine wp_iconst (v := 4) dX10_layer_81 rfl ?_
    refine wp_bipush (v := 8) dX10_layer_82 rfl ?_
    refine wp_csip dX10_layer_84 ck_RX10_63 rfl (as := [.int x2, .int 4, .int 8]) rfl rfl (Nat.le_of_ble_eq_true rfl) (cp_X10_isWithin G d X M x2 4 8) ?_
    refine wp_ifB_eq (inferInstance) (tgt := 101) dX10_layer_87 (by decide) (fun c12 => ?_) (fun c12 => ?_)
    · replace h := h.1 c12
      refine wp_ldc dX10_layer_101 kc_RX10_67 ?_
      exact wn_iret dX10_layer_103 rfl h
    · replace h := h.2 c12
      refine wp_aload_n 0 dX10_layer_90 rfl rfl ?_
      refine wp_getR dX10_layer_91 fl_RX10_149 rfl (sh4_K o7) (sh4_F_inRing o7) ?_
      refine wp_iload_n 3 dX10_layer_94 rfl rfl ?_
      refine wp_iconst (v := 4) dX10_layer_95 rfl ?_
      refine wp_isub dX10_layer_96 ?_
      obtain ⟨j13, o14, o15, h⟩ := h
      refine wp_iald (n := 5) dX10_layer_97 (sh4_K_inRing o7) (sh4_N_inRing o7) (by decide) o14 o15 ?_
      refine wp_goto (tgt := 103) dX10_layer_98 (by decide) ?_
      exact wn_iret dX10_layer_103 rfl h
  · replace h := h.2 c1
    refine wp_ldc dX10_layer_14 kc_RX10_67 ?_
    exact wn_iret dX10_layer_16 rfl h
theorem bX11_layer_0 {G : Gl} {d : Nat} {X : Sh} {M : Mm} {Q : Mm → Int32 → Prop} {a : Nat} {x1 : Int32} {x2 : Int32} (hS : Sh10 X a) (h : ((¬ (0 ≤ x1 ∧ x1 ≤ ((mI M (a + 1) 1) - 1)) → Q M (-1000000001)) ∧ (0 ≤ x1 ∧ x1 ≤ ((mI M (a + 1) 1) - 1) → ((0 ≤ x2 ∧ x2 ≤ 8 → (∀ v3 : Int32, v3 = (60 + 10 * x1) → ((3 ≤ x2 → ((¬ (x2 = 3) → (∃ j6 : Nat, (((v3 + 5) + x2) - 4) = nI j6 ∧ j6 < 2950 ∧ Q M (mI M (a + 1) j6))) ∧ (x2 = 3 → (∃ q9 : Mm → Int32 → Prop, Cn G m_X11_bulkOfLayer d [.ref a, .int x1] X M q9 ∧ ∀ M11 r12, q9 M11 r12 → Q M11 r12)))) ∧ (¬ (3 ≤ x2) → (∃ j14 : Nat, (v3 + x2) = nI j14 ∧ j14 < 2950 ∧ Q M (mI M (a + 1) j14)))))) ∧ (¬ (0 ≤ x2 ∧ x2 ≤ 8) → Q M (-1000000001)))))) : Wn G m_X11_layer (d + 1) 0 [(0, .ref a), (1, .int x1), (2, .int x2)] [] X M Q := by
  refine wp_iload_n 1 dX11_layer_0 rfl rfl ?_
  refine wp_i2l dX11_layer_1 ?_
  refine wp_lconst (v := 0) dX11_layer_2 rfl ?_
  refine wp_aload_n 0 dX11_layer_3 rfl rfl ?_
  refine wp_getR dX11_layer_4 fl_RX11_7 rfl (sh10_K hS) (sh10_F_s hS) ?_
  refine wp_iconst (v := 1) dX11_layer_7 rfl ?_
  refine wp_iald (n := 2950) dX11_layer_8 (sh10_K_s hS) (sh10_N_s hS) (by decide) rfl (by decide) ?_
  refine wp_iconst (v := 1) dX11_layer_9 rfl ?_
  refine wp_isub dX11_layer_10 ?_
  refine wp_i2l dX11_layer_11 ?_
  refine wp_csip dX11_layer_12 ck_RX11_78 rfl (as := [.long x1.toInt64, .long 0, .long (((mI M (a + 1) 1) - 1).toInt64)]) rfl rfl (Nat.le_of_ble_eq_true rfl) (cp_X11_isIn G d X M x1 0 ((mI M (a + 1) 1) - 1) (by decide) rfl) ?_
  refine wp_ifB_eq (inferInstance) (tgt := 30) dX11_layer_15 (by decide) (fun c1 => ?_) (fun c1 => ?_)
  · replace h := h.1 c1
    refine wp_ldc dX11_layer_30 kc_RX11_100 ?_
    exact wn_iret dX11_layer_32 rfl h
  · replace h := h.2 c1
    refine wp_iload_n 2 dX11_layer_18 rfl rfl ?_
    refine wp_i2l dX11_layer_19 ?_
    refine wp_lconst (v := 0) dX11_layer_20 rfl ?_
    refine wp_ldc2 dX11_layer_21 kc_RX11_158 ?_
    refine wp_csip dX11_layer_24 ck_RX11_78 rfl (as := [.long x2.toInt64, .long 0, .long 8]) rfl rfl (Nat.le_of_ble_eq_true rfl) (cp_X11_isIn G d X M x2 0 8 (by decide) (by decide)) ?_
    refine wp_ifB_ne (inferInstance) (tgt := 33) dX11_layer_27 (by decide) (fun c2 => ?_) (fun c2 => ?_)
    · replace h := h.1 c2
      refine wp_aload_n 0 dX11_layer_33 rfl rfl ?_
      refine wp_iload_n 1 dX11_layer_34 rfl rfl ?_
      refine wp_cvip dX11_layer_35 ck_RX11_134 (sh10_K hS) (as := [.int x1]) rfl rfl (Nat.le_of_ble_eq_true rfl) (cp_X11_layerAt G d X M a x1 hS) ?_
      refine wp_topi (fun v3 ev3 => ?_)
      replace h := h v3 ev3
      refine wp_istore_n (lo2 := [(3, .int _), (0, .ref _), (1, .int _), (2, .int _)]) dX11_layer_38 rfl (by decide) rfl ?_
      refine wp_iload_n 3 dX11_layer_39 rfl rfl ?_
      refine wp_iconst (v := 3) dX11_layer_40 rfl ?_
      refine wp_icmp_ge (tgt := 55) dX11_layer_41 (by decide) (fun c4 => ?_) (fun c4 => ?_)
      · replace h := h.1 c4
        refine wp_iload_n 3 dX11_layer_55 rfl rfl ?_
        refine wp_iconst (v := 3) dX11_layer_56 rfl ?_
        refine wp_icmp_ne (tgt := 68) dX11_layer_57 (by decide) (fun c5 => ?_) (fun c5 => ?_)
        · replace h := h.1 c5
          refine wp_aload_n 1 dX11_layer_68 rfl rfl ?_
          refine wp_getR dX11_layer_69 fl_RX11_7 rfl (sh10_K hS) (sh10_F_s hS) ?_
          refine wp_iload_n 0 dX11_layer_72 rfl rfl ?_
          refine wp_iconst (v := 5) dX11_layer_73 rfl ?_
          refine wp_iadd dX11_layer_74 ?_
          refine wp_iload_n 3 dX11_layer_75 rfl rfl ?_
          refine wp_iadd dX11_layer_76 ?_
          refine wp_iconst (v := 4) dX11_layer_77 rfl ?_
          refine wp_isub dX11_layer_78 ?_
          obtain ⟨j6, o7, o8, h⟩ := h
          refine wp_iald (n := 2950) dX11_layer_79 (sh10_K_s hS) (sh10_N_s hS) (by decide) o7 o8 ?_
          exact wn_iret dX11_layer_80 rfl h
        · replace h := h.2 c5
          refine wp_aload_n 1 dX11_layer_60 rfl rfl ?_
          refine wp_iload_n 2 dX11_layer_61 rfl rfl ?_
          obtain ⟨q9, o10, h⟩ := h
          refine wp_cvi dX11_layer_62 ck_RX11_160 (sh10_K hS) (as := [.int x1]) rfl rfl (Nat.le_of_ble_eq_true rfl) o10 (fun M11 r12 o13 => ?_)
          replace h := h M11 r12 o13
          refine wp_goto (tgt := 80) dX11_layer_65 (by decide) ?_
          exact wn_iret dX11_layer_80 rfl h
      · replace h := h.2 c4
        refine wp_aload_n 1 dX11_layer_44 rfl rfl ?_
        refine wp_getR dX11_layer_45 fl_RX11_7 rfl (sh10_K hS) (sh10_F_s hS) ?_
        refine wp_iload_n 0 dX11_layer_48 rfl rfl ?_
        refine wp_iload_n 3 dX11_layer_49 rfl rfl ?_
        refine wp_iadd dX11_layer_50 ?_
        obtain ⟨j14, o15, o16, h⟩ := h
        refine wp_iald (n := 2950) dX11_layer_51 (sh10_K_s hS) (sh10_N_s hS) (by decide) o15 o16 ?_
        refine wp_goto (tgt := 80) dX11_layer_52 (by decide) ?_
        exact wn_iret dX11_layer_80 rfl h
    · replace h := h.2 c2
      refine wp_ldc dX11_layer_30 kc_RX11_100 ?_
      exact wn_iret dX11_layer_32 rfl h
theorem case_layer (G : Gl) (d : Nat) (hd : 8 ≤ d) (X : Sh) (b m : Nat) (hS : Sh9 X b) (hM : Sh10 X m) (x1 x2 : Int32) : Case G d X b m m_X10_layer m_X11_layer [.int x1, .int x2] := by
  obtain ⟨d, rfl⟩ : ∃ d1, d = d1 + 1 := ⟨d - 1, by omega⟩
  refine Case.pure (fun M nb nl nx nt nd la hh hr => ?_)
  obtain ⟨hW, hB, hF, hT, hD, hR⟩ := id hh
  obtain ⟨w0, w1, w2, w3, w4, w5, w6, w7, w8, w9, wb, wf, _⟩ := id hW
  have d5 : mI M (b + 1 + 8) 5 = nI nl := hF.2.1.2.2.2.2.1
  by_cases h : 0 ≤ x1 ∧ x1 < nI nl
  · have h' : 0 ≤ x1 ∧ x1 < mI M (b + 1 + 8) 5 := by rw [d5]; exact h
    have h'' : 0 ≤ x1 ∧ x1 ≤ mI M (m + 1) 1 - 1 := by rw [w2, has_iff (by omega)]; exact h
    obtain ⟨i, hi, rfl⟩ := ix_of (by omega) h.1 h.2
    obtain ⟨p0, p1, p2, p3, p4, p5, p6, p7, p8, p9⟩ := hF.2.2 i hi
    have pl := (wf i hi).left (hF.2.2 i hi)
    have rl := hF.1.1 i (by omega)
    have sl := hF.1.sh (sh2_S_furnace (sh9_S_house hS)) (l := i) (by omega)
    by_cases h2 : 0 ≤ x2 ∧ x2 ≤ 8
    · obtain ⟨k, hk, rfl⟩ := ix_le (nb := 8) (by omega) h2.1 h2.2
      by_cases k3 : k = 3
      · subst k3
        refine ⟨s_bulkOf (mI M (m + 1)) i, Cn.of (by decide) (Nat.le_of_ble_eq_true rfl) (bX10_layer_0 hS ⟨fun _ => ⟨i, rfl, by omega, la i, rl, sl, fun q => absurd q (by decide), fun q => absurd q (by decide), fun q => absurd q (by decide), fun _ => ⟨rfl, pl⟩, fun _ _ _ q => absurd rfl q⟩, fun q => absurd h' q⟩), Cn.of (by decide) (Nat.le_of_ble_eq_true rfl) (bX11_layer_0 hM ⟨fun q => absurd h'' q, fun _ => ⟨fun _ => ?_, fun q => absurd h2 q⟩⟩)⟩
        rintro v3 rfl
        exact ⟨fun _ => ⟨fun q => absurd rfl q, fun _ => ⟨_, cp_X11_bulkOfLayer G d (by omega) X M m i hM (by omega), fun M11 r12 q => q⟩⟩, fun q => absurd (by decide) q⟩
      · by_cases k4 : k < 3
        · refine ⟨mI M (m + 1) (60 + 10 * i + k), Cn.of (by decide) (Nat.le_of_ble_eq_true rfl) (bX10_layer_0 hS ⟨fun _ => ⟨i, rfl, by omega, la i, rl, sl, fun q => ?_, fun q => ?_, fun q => ?_, fun q => ?_, fun q0 q1 q2 q3 => ?_⟩, fun q => absurd h' q⟩), Cn.of (by decide) (Nat.le_of_ble_eq_true rfl) (bX11_layer_0 hM ⟨fun q => absurd h'' q, fun _ => ⟨fun _ => ?_, fun q => absurd h2 q⟩⟩)⟩
          · have : k = 0 := (nI_inj (b := 0) (by omega) (by omega)).mp q
            subst this
            exact ⟨rfl, p0⟩
          · have : k = 1 := (nI_inj (b := 1) (by omega) (by omega)).mp q
            subst this
            exact ⟨rfl, p1.trans (congrArg _ (by omega))⟩
          · have : k = 2 := (nI_inj (b := 2) (by omega) (by omega)).mp q
            subst this
            exact ⟨rfl, p2.trans (congrArg _ (by omega))⟩
          · have : k = 3 := (nI_inj (b := 3) (by omega) (by omega)).mp q
            omega
          · exfalso
            have : k = 0 ∨ k = 1 ∨ k = 2 := by omega
            rcases this with rfl | rfl | rfl
            · exact q0 rfl
            · exact q1 rfl
            · exact q2 rfl
          · rintro v3 rfl
            refine ⟨fun q => ?_, fun _ => ⟨60 + 10 * i + k, (by first | rfl | (simp only [n_lit, nI_add, pk_mul]; done) | (simp only [n_lit, nI_add, pk_mul]; exact congrArg nI (by omega))), by omega, rfl, rfl⟩⟩
            have := (nI_leI (a := 3) (by omega) (by omega)).mp q
            omega
        · obtain ⟨r, rfl⟩ : ∃ r, k = 4 + r := ⟨k - 4, by omega⟩
          have nk : ∀ c : Nat, c < 4 → ¬ nI (4 + r) = nI c := fun c hc q => by
            have := (nI_inj (by omega) (by omega)).mp q
            omega
          have l4 : 4 ≤ nI (4 + r) ∧ nI (4 + r) ≤ 8 := ⟨(nI_leI (a := 4) (by omega) (by omega)).mpr (by omega), h2.2⟩
          refine ⟨mI M (m + 1) (65 + 10 * i + r), Cn.of (by decide) (Nat.le_of_ble_eq_true rfl) (bX10_layer_0 hS ⟨fun _ => ⟨i, rfl, by omega, la i, rl, sl, fun q => absurd q (nk 0 (by omega)), fun q => absurd q (nk 1 (by omega)), fun q => absurd q (nk 2 (by omega)), fun q => absurd q (nk 3 (by omega)), fun _ _ _ _ => ⟨fun q => absurd l4 q, fun _ => ⟨r, ?_, by omega, rfl, p9 r (by omega)⟩⟩⟩, fun q => absurd h' q⟩), Cn.of (by decide) (Nat.le_of_ble_eq_true rfl) (bX11_layer_0 hM ⟨fun q => absurd h'' q, fun _ => ⟨fun _ => ?_, fun q => absurd h2 q⟩⟩)⟩
          · rw [n_lit 4, nI_subI _ _ (by omega)]
            exact congrArg nI (by omega)
          · rintro v3 rfl
            refine ⟨fun _ => ⟨fun _ => ⟨65 + 10 * i + r, ?_, by omega, rfl, rfl⟩, fun q => absurd q (nk 3 (by omega))⟩, fun q => ?_⟩
            · simp only [n_lit, nI_add, pk_mul]
              rw [nI_subI _ _ (by omega)]
              exact congrArg nI (by omega)
            · exact absurd ((nI_leI (a := 3) (by omega) (by omega)).mpr (by omega)) q
    · have q : ∀ c : Nat, c ≤ 8 → ¬ x2 = nI c := fun c hc e => h2 (by
        rw [e]
        exact ⟨nI_pos' (by omega), (nI_leI (b := 8) (by omega) (by omega)).mpr hc⟩)
      refine ⟨-1000000001, Cn.of (by decide) (Nat.le_of_ble_eq_true rfl) (bX10_layer_0 hS ⟨fun _ => ⟨i, rfl, by omega, la i, rl, sl, fun r => absurd r (q 0 (by omega)), fun r => absurd r (q 1 (by omega)), fun r => absurd r (q 2 (by omega)), fun r => absurd r (q 3 (by omega)), fun _ _ _ _ => ⟨fun _ => ⟨rfl, rfl⟩, fun r => absurd ⟨Int32.le_trans (by decide) r.1, r.2⟩ h2⟩⟩, fun q => absurd h' q⟩), Cn.of (by decide) (Nat.le_of_ble_eq_true rfl) (bX11_layer_0 hM ⟨fun q => absurd h'' q, fun _ => ⟨fun q => absurd q h2, fun _ => ⟨rfl, rfl⟩⟩⟩)⟩
  · have h' : ¬ (0 ≤ x1 ∧ x1 < mI M (b + 1 + 8) 5) := by rw [d5]; exact h
    have h'' : ¬ (0 ≤ x1 ∧ x1 ≤ mI M (m + 1) 1 - 1) := by rw [w2, has_iff (by omega)]; exact h
    exact ⟨-1000000001, Cn.of (by decide) (Nat.le_of_ble_eq_true rfl) (bX10_layer_0 hS ⟨fun q => absurd q h', fun _ => ⟨rfl, rfl⟩⟩), Cn.of (by decide) (Nat.le_of_ble_eq_true rfl) (bX11_layer_0 hM ⟨fun _ => ⟨rfl, rfl⟩, fun q => absurd q h''⟩)⟩
