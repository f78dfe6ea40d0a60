/-! calls that only tell -/
/-- a call of the class and the same of the reference -/
def Case (G : Gl) (d : Nat) (X : Sh) (b m : Nat) (k10 k11 : Md) (as : List Value) : Prop := ∀ M, Sim M b m → Cn G k10 d (.ref b :: as) X M (fun M1 r1 => Cn G k11 d (.ref m :: as) X M1 (fun M2 r2 => r1 = r2 ∧ Sim M2 b m))
theorem Case.pure {G : Gl} {d : Nat} {X : Sh} {b m : Nat} {k10 k11 : Md} {as : List Value} (h : ∀ M nb nl nx nt nd la, HSx M (b + 1) (mI M (m + 1)) nb nl nx nt nd la → Rest M b m → ∃ v, Cn G k10 d (.ref b :: as) X M (fun M1 r1 => M1 = M ∧ r1 = v) ∧ Cn G k11 d (.ref m :: as) X M (fun M2 r2 => M2 = M ∧ r2 = v)) : Case G d X b m k10 k11 as := by
  intro M hs
  obtain ⟨nb, nl, nx, nt, nd, la, hh⟩ := hs.1
  obtain ⟨v, h1, h2⟩ := h M nb nl nx nt nd la hh hs.2
  refine h1.mono (fun M1 r1 h3 => ?_)
  obtain ⟨e, rfl⟩ := h3
  have e := e.symm
  subst e
  exact h2.mono (fun M2 r2 h4 => by
    obtain ⟨e, rfl⟩ := h4
    have e := e.symm
    subst e
    exact ⟨rfl, hs⟩)
theorem has_iff {x : Int32} {n : Nat} (hn : n < 2147483648) : (0 ≤ x ∧ x ≤ nI n - 1) ↔ (0 ≤ x ∧ x < nI n) := ix_pred_iff (by omega)
def s_told (σ : Nat → Int32) (nb : Nat) (x1 x2 : Int32) : Int32 := if 0 ≤ x1 ∧ x1 < nI nb then (if x2 = 0 then σ (20 + 5 * x1.toNatClampNeg) else if x2 = 1 then σ (21 + 5 * x1.toNatClampNeg) else if x2 = 2 then σ (22 + 5 * x1.toNatClampNeg) else if x2 = 3 then σ (23 + 5 * x1.toNatClampNeg) else if x2 = 4 then σ (24 + 5 * x1.toNatClampNeg) else if x2 = 5 then f_holds (σ (20 + 5 * x1.toNatClampNeg)) else -1000000001) else -1000000001
theorem bX10_told_0 {G : Gl} {d : Nat} {X : Sh} {M : Mm} {Q : Mm → Int32 → Prop} {a : Nat} {x1 : Int32} {x2 : Int32} (hS : Sh9 X a) (h : ((0 ≤ x1 ∧ x1 < mI M ((a + 1) + 1) 5 → ((x2 = 0 → (∃ j3 : Nat, x1 = nI j3 ∧ j3 < 6 ∧ Q M (mI M (((a + 1) + 1) + 1) j3))) ∧ (x2 = 1 → (∃ j7 : Nat, x1 = nI j7 ∧ j7 < 6 ∧ Q M (mI M (((a + 1) + 1) + 2) j7))) ∧ (x2 = 2 → (∃ j11 : Nat, x1 = nI j11 ∧ j11 < 6 ∧ Q M (mI M (((a + 1) + 1) + 3) j11))) ∧ (x2 = 3 → (∃ j15 : Nat, x1 = nI j15 ∧ j15 < 6 ∧ Q M (mI M (((a + 1) + 1) + 4) j15))) ∧ (x2 = 4 → (∃ j19 : Nat, x1 = nI j19 ∧ j19 < 6 ∧ Q M (mI M (((a + 1) + 1) + 5) j19))) ∧ (x2 = 5 → (∃ j23 : Nat, x1 = nI j23 ∧ j23 < 6 ∧ Q M (f_holds (mI M (((a + 1) + 1) + 1) j23)))) ∧ (x2 ≠ 0 → x2 ≠ 1 → x2 ≠ 2 → x2 ≠ 3 → x2 ≠ 4 → x2 ≠ 5 → Q M (-1000000001)))) ∧ (¬ (0 ≤ x1 ∧ x1 < mI M ((a + 1) + 1) 5) → Q M (-1000000001)))) : Wn G m_X10_told (d + 1) 0 [(0, .ref a), (1, .int x1), (2, .int x2)] [] X M Q := by
  refine wp_aload_n 0 dX10_told_0 rfl rfl ?_
  refine wp_getR dX10_told_1 fl_RX10_10 rfl (sh9_K hS) (sh9_F_house hS) ?_
  refine wp_getR dX10_told_4 fl_RX10_68 rfl (sh2_K (sh9_S_house hS)) (sh2_F_bins (sh9_S_house hS)) ?_
  refine wp_iload_n 1 dX10_told_7 rfl rfl ?_
  refine wp_cvip dX10_told_8 ck_RX10_78 (sh0_K (sh2_S_bins (sh9_S_house hS))) (as := [.int x1]) rfl rfl (Nat.le_of_ble_eq_true rfl) (cp_X0_has G d X M ((a + 1) + 1) x1 (sh2_S_bins (sh9_S_house hS))) ?_
  refine wp_ifB_ne (inferInstance) (tgt := 17) dX10_told_11 (by decide) (fun c1 => ?_) (fun c1 => ?_)
  · replace h := h.1 c1
    refine wp_aload_n 0 dX10_told_17 rfl rfl ?_
    refine wp_getR dX10_told_18 fl_RX10_10 rfl (sh9_K hS) (sh9_F_house hS) ?_
    refine wp_getR dX10_told_21 fl_RX10_68 rfl (sh2_K (sh9_S_house hS)) (sh2_F_bins (sh9_S_house hS)) ?_
    refine wp_astore_n (lo2 := [(3, .ref _), (0, .ref _), (1, .int _), (2, .int _)]) dX10_told_24 rfl (by decide) rfl ?_
    refine wp_iload_n 3 dX10_told_25 rfl rfl ?_
    by_cases c2 : x2 = 0
    · replace h := h.1 c2
      refine wp_tblIn (tgt := 64) (off := 38) dX10_told_26 (by rw [c2]; decide) (by rw [c2]; decide) (by rw [c2]; rfl) (by decide) ?_
      refine wp_aload_n 0 dX10_told_64 rfl rfl ?_
      refine wp_getR dX10_told_65 fl_RX10_81 rfl (sh0_K (sh2_S_bins (sh9_S_house hS))) (sh0_F_kind (sh2_S_bins (sh9_S_house hS))) ?_
      refine wp_iload_n 2 dX10_told_68 rfl rfl ?_
      obtain ⟨j3, o4, o5, h⟩ := h
      refine wp_iald (n := 6) dX10_told_69 (sh0_K_kind (sh2_S_bins (sh9_S_house hS))) (sh0_N_kind (sh2_S_bins (sh9_S_house hS))) (by decide) o4 o5 ?_
      exact wn_iret dX10_told_70 rfl h
    by_cases c6 : x2 = 1
    · replace h := h.2.1 c6
      refine wp_tblIn (tgt := 71) (off := 45) dX10_told_26 (by rw [c6]; decide) (by rw [c6]; decide) (by rw [c6]; rfl) (by decide) ?_
      refine wp_aload_n 0 dX10_told_71 rfl rfl ?_
      refine wp_getR dX10_told_72 fl_RX10_84 rfl (sh0_K (sh2_S_bins (sh9_S_house hS))) (sh0_F_share (sh2_S_bins (sh9_S_house hS))) ?_
      refine wp_iload_n 2 dX10_told_75 rfl rfl ?_
      obtain ⟨j7, o8, o9, h⟩ := h
      refine wp_iald (n := 6) dX10_told_76 (sh0_K_share (sh2_S_bins (sh9_S_house hS))) (sh0_N_share (sh2_S_bins (sh9_S_house hS))) (by decide) o8 o9 ?_
      exact wn_iret dX10_told_77 rfl h
    by_cases c10 : x2 = 2
    · replace h := h.2.2.1 c10
      refine wp_tblIn (tgt := 78) (off := 52) dX10_told_26 (by rw [c10]; decide) (by rw [c10]; decide) (by rw [c10]; rfl) (by decide) ?_
      refine wp_aload_n 0 dX10_told_78 rfl rfl ?_
      refine wp_getR dX10_told_79 fl_RX10_87 rfl (sh0_K (sh2_S_bins (sh9_S_house hS))) (sh0_F_price (sh2_S_bins (sh9_S_house hS))) ?_
      refine wp_iload_n 2 dX10_told_82 rfl rfl ?_
      obtain ⟨j11, o12, o13, h⟩ := h
      refine wp_iald (n := 6) dX10_told_83 (sh0_K_price (sh2_S_bins (sh9_S_house hS))) (sh0_N_price (sh2_S_bins (sh9_S_house hS))) (by decide) o12 o13 ?_
      exact wn_iret dX10_told_84 rfl h
    by_cases c14 : x2 = 3
    · replace h := h.2.2.2.1 c14
      refine wp_tblIn (tgt := 85) (off := 59) dX10_told_26 (by rw [c14]; decide) (by rw [c14]; decide) (by rw [c14]; rfl) (by decide) ?_
      refine wp_aload_n 0 dX10_told_85 rfl rfl ?_
      refine wp_getR dX10_told_86 fl_RX10_90 rfl (sh0_K (sh2_S_bins (sh9_S_house hS))) (sh0_F_tons (sh2_S_bins (sh9_S_house hS))) ?_
      refine wp_iload_n 2 dX10_told_89 rfl rfl ?_
      obtain ⟨j15, o16, o17, h⟩ := h
      refine wp_iald (n := 6) dX10_told_90 (sh0_K_tons (sh2_S_bins (sh9_S_house hS))) (sh0_N_tons (sh2_S_bins (sh9_S_house hS))) (by decide) o16 o17 ?_
      exact wn_iret dX10_told_91 rfl h
    by_cases c18 : x2 = 4
    · replace h := h.2.2.2.2.1 c18
      refine wp_tblIn (tgt := 92) (off := 66) dX10_told_26 (by rw [c18]; decide) (by rw [c18]; decide) (by rw [c18]; rfl) (by decide) ?_
      refine wp_aload_n 0 dX10_told_92 rfl rfl ?_
      refine wp_getR dX10_told_93 fl_RX10_93 rfl (sh0_K (sh2_S_bins (sh9_S_house hS))) (sh0_F_turns (sh2_S_bins (sh9_S_house hS))) ?_
      refine wp_iload_n 2 dX10_told_96 rfl rfl ?_
      obtain ⟨j19, o20, o21, h⟩ := h
      refine wp_iald (n := 6) dX10_told_97 (sh0_K_turns (sh2_S_bins (sh9_S_house hS))) (sh0_N_turns (sh2_S_bins (sh9_S_house hS))) (by decide) o20 o21 ?_
      exact wn_iret dX10_told_98 rfl h
    by_cases c22 : x2 = 5
    · replace h := h.2.2.2.2.2.1 c22
      refine wp_tblIn (tgt := 99) (off := 73) dX10_told_26 (by rw [c22]; decide) (by rw [c22]; decide) (by rw [c22]; rfl) (by decide) ?_
      refine wp_aload_n 0 dX10_told_99 rfl rfl ?_
      refine wp_getR dX10_told_100 fl_RX10_81 rfl (sh0_K (sh2_S_bins (sh9_S_house hS))) (sh0_F_kind (sh2_S_bins (sh9_S_house hS))) ?_
      refine wp_iload_n 2 dX10_told_103 rfl rfl ?_
      obtain ⟨j23, o24, o25, h⟩ := h
      refine wp_iald (n := 6) dX10_told_104 (sh0_K_kind (sh2_S_bins (sh9_S_house hS))) (sh0_N_kind (sh2_S_bins (sh9_S_house hS))) (by decide) o24 o25 ?_
      refine wp_csip dX10_told_105 ck_RX10_96 rfl (as := [.int ((mI M (((a + 1) + 1) + 1) j23))]) rfl rfl (Nat.le_of_ble_eq_true rfl) (cp_X7_holdsOf G d X M (mI M (((a + 1) + 1) + 1) j23)) ?_
      exact wn_iret dX10_told_108 rfl h
    replace h := h.2.2.2.2.2.2 c2 c6 c10 c14 c18 c22
    have ec2 := ne_ti (z := 0) c2 rfl
    have ec6 := ne_ti (z := 1) c6 rfl
    have ec10 := ne_ti (z := 2) c10 rfl
    have ec14 := ne_ti (z := 3) c14 rfl
    have ec18 := ne_ti (z := 4) c18 rfl
    have ec22 := ne_ti (z := 5) c22 rfl
    refine wp_tblOut (tgt := 109) dX10_told_26 (by omega) (by decide) ?_
    refine wp_ldc dX10_told_109 kc_RX10_67 ?_
    exact wn_iret dX10_told_111 rfl h
  · replace h := h.2 c1
    refine wp_ldc dX10_told_14 kc_RX10_67 ?_
    exact wn_iret dX10_told_16 rfl h
theorem bX11_told_0 {G : Gl} {d : Nat} {X : Sh} {M : Mm} {Q : Mm → Int32 → Prop} {a : Nat} {x1 : Int32} {x2 : Int32} (hS : Sh10 X a) (hd : 1 ≤ d) (h : ((¬ (0 ≤ x1 ∧ x1 ≤ mI M (a + 1) 0 - 1) → Q M (-1000000001)) ∧ (0 ≤ x1 ∧ x1 ≤ mI M (a + 1) 0 - 1 → ((0 ≤ x2 ∧ x2 ≤ 5 → ((5 ≤ x2 → (∃ j4 : Nat, (20 + 5 * x1) = nI j4 ∧ j4 < 2950 ∧ Q M (f_holds (mI M (a + 1) j4)))) ∧ (¬ (5 ≤ x2) → (∃ j7 : Nat, ((20 + 5 * x1) + x2) = nI j7 ∧ j7 < 2950 ∧ Q M (mI M (a + 1) j7))))) ∧ (¬ (0 ≤ x2 ∧ x2 ≤ 5) → Q M (-1000000001)))))) : Wn G m_X11_told (d + 1) 0 [(0, .ref a), (1, .int x1), (2, .int x2)] [] X M Q := by
  refine wp_aload_n 0 dX11_told_0 rfl rfl ?_
  refine wp_iload_n 1 dX11_told_1 rfl rfl ?_
  refine wp_cvip dX11_told_2 ck_RX11_102 (sh10_K hS) (as := [.int x1]) rfl rfl (Nat.le_of_ble_eq_true rfl) (cp_X11_isBin G d (by omega) X M a x1 hS) ?_
  refine wp_ifB_eq (inferInstance) (tgt := 20) dX11_told_5 (by decide) (fun c1 => ?_) (fun c1 => ?_)
  · replace h := h.1 c1
    refine wp_ldc dX11_told_20 kc_RX11_100 ?_
    exact wn_iret dX11_told_22 rfl h
  · replace h := h.2 c1
    refine wp_iload_n 2 dX11_told_8 rfl rfl ?_
    refine wp_i2l dX11_told_9 ?_
    refine wp_lconst (v := 0) dX11_told_10 rfl ?_
    refine wp_ldc2 dX11_told_11 kc_RX11_96 ?_
    refine wp_csip dX11_told_14 ck_RX11_78 rfl (as := [.long x2.toInt64, .long 0, .long 5]) rfl rfl (Nat.le_of_ble_eq_true rfl) (cp_X11_isIn G d X M x2 0 5 (by decide) (by decide)) ?_
    refine wp_ifB_ne (inferInstance) (tgt := 23) dX11_told_17 (by decide) (fun c2 => ?_) (fun c2 => ?_)
    · replace h := h.1 c2
      refine wp_iload_n 2 dX11_told_23 rfl rfl ?_
      refine wp_iconst (v := 5) dX11_told_24 rfl ?_
      refine wp_icmp_ge (tgt := 43) dX11_told_25 (by decide) (fun c3 => ?_) (fun c3 => ?_)
      · replace h := h.1 c3
        refine wp_aload_n 0 dX11_told_43 rfl rfl ?_
        refine wp_getR dX11_told_44 fl_RX11_7 rfl (sh10_K hS) (sh10_F_s hS) ?_
        refine wp_aload_n 0 dX11_told_47 rfl rfl ?_
        refine wp_iload_n 1 dX11_told_48 rfl rfl ?_
        refine wp_cvip dX11_told_49 ck_RX11_86 (sh10_K hS) (as := [.int x1]) rfl rfl (Nat.le_of_ble_eq_true rfl) (cp_X11_binAt G d X M a x1 hS) ?_
        obtain ⟨j4, o5, o6, h⟩ := h
        refine wp_iald (n := 2950) dX11_told_52 (sh10_K_s hS) (sh10_N_s hS) (by decide) o5 o6 ?_
        refine wp_csip dX11_told_53 ck_RX11_106 rfl (as := [.int ((mI M (a + 1) j4))]) rfl rfl (Nat.le_of_ble_eq_true rfl) (cp_X11_holdsOf G d X M (mI M (a + 1) j4)) ?_
        exact wn_iret dX11_told_56 rfl h
      · replace h := h.2 c3
        refine wp_aload_n 0 dX11_told_28 rfl rfl ?_
        refine wp_getR dX11_told_29 fl_RX11_7 rfl (sh10_K hS) (sh10_F_s hS) ?_
        refine wp_aload_n 0 dX11_told_32 rfl rfl ?_
        refine wp_iload_n 1 dX11_told_33 rfl rfl ?_
        refine wp_cvip dX11_told_34 ck_RX11_86 (sh10_K hS) (as := [.int x1]) rfl rfl (Nat.le_of_ble_eq_true rfl) (cp_X11_binAt G d X M a x1 hS) ?_
        refine wp_iload_n 2 dX11_told_37 rfl rfl ?_
        refine wp_iadd dX11_told_38 ?_
        obtain ⟨j7, o8, o9, h⟩ := h
        refine wp_iald (n := 2950) dX11_told_39 (sh10_K_s hS) (sh10_N_s hS) (by decide) o8 o9 ?_
        refine wp_goto (tgt := 56) dX11_told_40 (by decide) ?_
        exact wn_iret dX11_told_56 rfl h
    · replace h := h.2 c2
      refine wp_ldc dX11_told_20 kc_RX11_100 ?_
      exact wn_iret dX11_told_22 rfl h
theorem case_told (G : Gl) (d : Nat) (hd : 8 ≤ d) (X : Sh) (b m : Nat) (hS : Sh9 X b) (hM : Sh10 X m) (x1 x2 : Int32) : Case G d X b m m_X10_told m_X11_told [.int x1, .int x2] := by
  obtain ⟨d, rfl⟩ : ∃ d1, d = d1 + 1 := ⟨d - 1, by omega⟩
  refine Case.pure (fun M nb nl nx nt nd la hh hr => ⟨s_told (mI M (m + 1)) nb x1 x2, ?_, ?_⟩)
  · obtain ⟨hW, hB, hF, hT, hD, hR⟩ := hh
    obtain ⟨w0, w1, _⟩ := hW
    refine Cn.of (by decide) (Nat.le_of_ble_eq_true rfl) (bX10_told_0 hS ⟨fun h => ?_, fun h => ?_⟩)
    · rw [hB.1] at h
      obtain ⟨i, hi, rfl⟩ := ix_of (by omega) h.1 h.2
      obtain ⟨b0, b1, b2, b3, b4⟩ := hB.2.2.1 i hi
      have e : s_told (mI M (m + 1)) nb (nI i) x2 = (if x2 = 0 then mI M (m + 1) (20 + 5 * i) else if x2 = 1 then mI M (m + 1) (21 + 5 * i) else if x2 = 2 then mI M (m + 1) (22 + 5 * i) else if x2 = 3 then mI M (m + 1) (23 + 5 * i) else if x2 = 4 then mI M (m + 1) (24 + 5 * i) else if x2 = 5 then f_holds (mI M (m + 1) (20 + 5 * i)) else -1000000001) := by
        unfold s_told
        rw [if_pos h, nI_clamp (by omega)]
      rw [e]
      refine ⟨fun q => ⟨i, rfl, by omega, rfl, ?_⟩, fun q => ⟨i, rfl, by omega, rfl, ?_⟩, fun q => ⟨i, rfl, by omega, rfl, ?_⟩, fun q => ⟨i, rfl, by omega, rfl, ?_⟩, fun q => ⟨i, rfl, by omega, rfl, ?_⟩, fun q => ⟨i, rfl, by omega, rfl, ?_⟩, fun q0 q1 q2 q3 q4 q5 => ⟨rfl, ?_⟩⟩
      · subst q
        exact b0
      · subst q
        exact b1
      · subst q
        exact b2
      · subst q
        exact b3
      · subst q
        exact b4
      · subst q
        exact congrArg f_holds b0
      · rw [if_neg q0, if_neg q1, if_neg q2, if_neg q3, if_neg q4, if_neg q5]
    · rw [hB.1] at h
      refine ⟨rfl, ?_⟩
      unfold s_told
      rw [if_neg h]
  · obtain ⟨⟨w0, w1, _⟩, _⟩ := hh
    refine Cn.of (by decide) (Nat.le_of_ble_eq_true rfl) (bX11_told_0 hM (by omega) ⟨fun h => ?_, fun h => ?_⟩)
    · rw [w0, has_iff (by omega)] at h
      refine ⟨rfl, ?_⟩
      unfold s_told
      rw [if_neg h]
    · rw [w0, has_iff (by omega)] at h
      obtain ⟨i, hi, rfl⟩ := ix_of (by omega) h.1 h.2
      have e : s_told (mI M (m + 1)) nb (nI i) x2 = (if x2 = 0 then mI M (m + 1) (20 + 5 * i) else if x2 = 1 then mI M (m + 1) (21 + 5 * i) else if x2 = 2 then mI M (m + 1) (22 + 5 * i) else if x2 = 3 then mI M (m + 1) (23 + 5 * i) else if x2 = 4 then mI M (m + 1) (24 + 5 * i) else if x2 = 5 then f_holds (mI M (m + 1) (20 + 5 * i)) else -1000000001) := by
        unfold s_told
        rw [if_pos h, nI_clamp (by omega)]
      rw [e]
      refine ⟨fun h2 => ?_, fun h2 => ?_⟩
      · obtain ⟨k, hk, rfl⟩ := ix_le (nb := 5) (by omega) h2.1 h2.2
        refine ⟨fun h3 => ?_, fun h3 => ?_⟩
        · have := (nI_leI (a := 5) (by omega) (by omega)).mp h3
          have : k = 5 := by omega
          subst this
          exact ⟨20 + 5 * i, (by first | rfl | (simp only [n_lit, nI_add, pk_mul]; done) | (simp only [n_lit, nI_add, pk_mul]; exact congrArg nI (by omega))), by omega, rfl, rfl⟩
        · have : k < 5 := by
            by_cases q : k < 5
            · exact q
            · exact absurd ((nI_leI (a := 5) (by omega) (by omega)).mpr (by omega)) h3
          refine ⟨20 + 5 * i + k, (by first | rfl | (simp only [n_lit, nI_add, pk_mul]; done) | (simp only [n_lit, nI_add, pk_mul]; exact congrArg nI (by omega))), by omega, rfl, ?_⟩
          match k, this with
          | 0, _ => rfl
          | 1, _ => exact congrArg (mI M (m + 1)) (by omega)
          | 2, _ => exact congrArg (mI M (m + 1)) (by omega)
          | 3, _ => exact congrArg (mI M (m + 1)) (by omega)
          | 4, _ => exact congrArg (mI M (m + 1)) (by omega)
      · refine ⟨rfl, ?_⟩
        have q : ∀ k : Nat, k ≤ 5 → ¬ x2 = nI k := fun k hk e2 => h2 (by
          rw [e2]
          exact ⟨nI_pos' (by omega), (nI_leI (b := 5) (by omega) (by omega)).mpr hk⟩)
        rw [if_neg (show ¬ _ = (0 : Int32) from q 0 (by omega)), if_neg (show ¬ _ = (1 : Int32) from q 1 (by omega)), if_neg (show ¬ _ = (2 : Int32) from q 2 (by omega)), if_neg (show ¬ _ = (3 : Int32) from q 3 (by omega)), if_neg (show ¬ _ = (4 : Int32) from q 4 (by omega)), if_neg (show ¬ _ = (5 : Int32) from q 5 (by omega))]
def s_empty (σ : Nat → Int32) (nb : Nat) (x1 x2 : Int32) : Int32 := if 0 ≤ x1 ∧ x1 < nI nb then (if 1 ≤ x2 ∧ x2 ≤ 999 then σ (23 + 5 * x1.toNatClampNeg) / x2 else -1000000001) else -1000000001
theorem bX10_empty_0 {G : Gl} {d : Nat} {X : Sh} {M : Mm} {Q : Mm → Int32 → Prop} {a : Nat} {x1 : Int32} {x2 : Int32} (hS : Sh9 X a) (h : ((¬ (0 ≤ x1 ∧ x1 < mI M ((a + 1) + 1) 5) → Q M (-1000000001)) ∧ (0 ≤ x1 ∧ x1 < mI M ((a + 1) + 1) 5 → ((1 ≤ x2 ∧ x2 ≤ 999 → (∃ j3 : Nat, x1 = nI j3 ∧ j3 < 6 ∧ (¬ (x2 = 0) ∧ Q M ((mI M (((a + 1) + 1) + 4) j3) / x2)))) ∧ (¬ (1 ≤ x2 ∧ x2 ≤ 999) → Q M (-1000000001)))))) : Wn G m_X10_empty (d + 1) 0 [(0, .ref a), (1, .int x1), (2, .int x2)] [] X M Q := by
  refine wp_aload_n 0 dX10_empty_0 rfl rfl ?_
  refine wp_getR dX10_empty_1 fl_RX10_10 rfl (sh9_K hS) (sh9_F_house hS) ?_
  refine wp_getR dX10_empty_4 fl_RX10_68 rfl (sh2_K (sh9_S_house hS)) (sh2_F_bins (sh9_S_house hS)) ?_
  refine wp_iload_n 1 dX10_empty_7 rfl rfl ?_
  refine wp_cvip dX10_empty_8 ck_RX10_78 (sh0_K (sh2_S_bins (sh9_S_house hS))) (as := [.int x1]) rfl rfl (Nat.le_of_ble_eq_true rfl) (cp_X0_has G d X M ((a + 1) + 1) x1 (sh2_S_bins (sh9_S_house hS))) ?_
  refine wp_ifB_eq (inferInstance) (tgt := 25) dX10_empty_11 (by decide) (fun c1 => ?_) (fun c1 => ?_)
  · replace h := h.1 c1
    refine wp_ldc dX10_empty_25 kc_RX10_67 ?_
    exact wn_iret dX10_empty_27 rfl h
  · replace h := h.2 c1
    refine wp_iload_n 2 dX10_empty_14 rfl rfl ?_
    refine wp_iconst (v := 1) dX10_empty_15 rfl ?_
    refine wp_sipush (v := 999) dX10_empty_16 rfl ?_
    refine wp_csip dX10_empty_19 ck_RX10_63 rfl (as := [.int x2, .int 1, .int 999]) rfl rfl (Nat.le_of_ble_eq_true rfl) (cp_X10_isWithin G d X M x2 1 999) ?_
    refine wp_ifB_ne (inferInstance) (tgt := 28) dX10_empty_22 (by decide) (fun c2 => ?_) (fun c2 => ?_)
    · replace h := h.1 c2
      refine wp_aload_n 0 dX10_empty_28 rfl rfl ?_
      refine wp_getR dX10_empty_29 fl_RX10_10 rfl (sh9_K hS) (sh9_F_house hS) ?_
      refine wp_getR dX10_empty_32 fl_RX10_68 rfl (sh2_K (sh9_S_house hS)) (sh2_F_bins (sh9_S_house hS)) ?_
      refine wp_getR dX10_empty_35 fl_RX10_90 rfl (sh0_K (sh2_S_bins (sh9_S_house hS))) (sh0_F_tons (sh2_S_bins (sh9_S_house hS))) ?_
      refine wp_iload_n 1 dX10_empty_38 rfl rfl ?_
      obtain ⟨j3, o4, o5, h⟩ := h
      refine wp_iald (n := 6) dX10_empty_39 (sh0_K_tons (sh2_S_bins (sh9_S_house hS))) (sh0_N_tons (sh2_S_bins (sh9_S_house hS))) (by decide) o4 o5 ?_
      refine wp_iload_n 2 dX10_empty_40 rfl rfl ?_
      obtain ⟨o6, h⟩ := h
      refine wp_idiv dX10_empty_41 o6 ?_
      exact wn_iret dX10_empty_42 rfl h
    · replace h := h.2 c2
      refine wp_ldc dX10_empty_25 kc_RX10_67 ?_
      exact wn_iret dX10_empty_27 rfl h
theorem bX11_empty_0 {G : Gl} {d : Nat} {X : Sh} {M : Mm} {Q : Mm → Int32 → Prop} {a : Nat} {x1 : Int32} {x2 : Int32} (hS : Sh10 X a) (hd : 1 ≤ d) (h : ((¬ (0 ≤ x1 ∧ x1 ≤ mI M (a + 1) 0 - 1) → Q M (-1000000001)) ∧ (0 ≤ x1 ∧ x1 ≤ mI M (a + 1) 0 - 1 → ((¬ (1 ≤ x2 ∧ x2 ≤ 999) → Q M (-1000000001)) ∧ (1 ≤ x2 ∧ x2 ≤ 999 → (∃ j3 : Nat, ((20 + 5 * x1) + 3) = nI j3 ∧ j3 < 2950 ∧ (¬ (x2 = 0) ∧ Q M ((mI M (a + 1) j3) / x2)))))))) : Wn G m_X11_empty (d + 1) 0 [(0, .ref a), (1, .int x1), (2, .int x2)] [] X M Q := by
  refine wp_aload_n 0 dX11_empty_0 rfl rfl ?_
  refine wp_iload_n 1 dX11_empty_1 rfl rfl ?_
  refine wp_cvip dX11_empty_2 ck_RX11_102 (sh10_K hS) (as := [.int x1]) rfl rfl (Nat.le_of_ble_eq_true rfl) (cp_X11_isBin G d (by omega) X M a x1 hS) ?_
  refine wp_ifB_eq (inferInstance) (tgt := 37) dX11_empty_5 (by decide) (fun c1 => ?_) (fun c1 => ?_)
  · replace h := h.1 c1
    refine wp_ldc dX11_empty_37 kc_RX11_100 ?_
    exact wn_iret dX11_empty_39 rfl h
  · replace h := h.2 c1
    refine wp_iload_n 2 dX11_empty_8 rfl rfl ?_
    refine wp_i2l dX11_empty_9 ?_
    refine wp_lconst (v := 1) dX11_empty_10 rfl ?_
    refine wp_ldc2 dX11_empty_11 kc_RX11_109 ?_
    refine wp_csip dX11_empty_14 ck_RX11_78 rfl (as := [.long x2.toInt64, .long 1, .long 999]) rfl rfl (Nat.le_of_ble_eq_true rfl) (cp_X11_isIn G d X M x2 1 999 (by decide) (by decide)) ?_
    refine wp_ifB_eq (inferInstance) (tgt := 37) dX11_empty_17 (by decide) (fun c2 => ?_) (fun c2 => ?_)
    · replace h := h.1 c2
      refine wp_ldc dX11_empty_37 kc_RX11_100 ?_
      exact wn_iret dX11_empty_39 rfl h
    · replace h := h.2 c2
      refine wp_aload_n 0 dX11_empty_20 rfl rfl ?_
      refine wp_getR dX11_empty_21 fl_RX11_7 rfl (sh10_K hS) (sh10_F_s hS) ?_
      refine wp_aload_n 0 dX11_empty_24 rfl rfl ?_
      refine wp_iload_n 1 dX11_empty_25 rfl rfl ?_
      refine wp_cvip dX11_empty_26 ck_RX11_86 (sh10_K hS) (as := [.int x1]) rfl rfl (Nat.le_of_ble_eq_true rfl) (cp_X11_binAt G d X M a x1 hS) ?_
      refine wp_iconst (v := 3) dX11_empty_29 rfl ?_
      refine wp_iadd dX11_empty_30 ?_
      obtain ⟨j3, o4, o5, h⟩ := h
      refine wp_iald (n := 2950) dX11_empty_31 (sh10_K_s hS) (sh10_N_s hS) (by decide) o4 o5 ?_
      refine wp_iload_n 2 dX11_empty_32 rfl rfl ?_
      obtain ⟨o6, h⟩ := h
      refine wp_idiv dX11_empty_33 o6 ?_
      refine wp_goto (tgt := 39) dX11_empty_34 (by decide) ?_
      exact wn_iret dX11_empty_39 rfl h
theorem ne0_of {x : Int32} (h : 1 ≤ x) : ¬ x = 0 := fun q => by
  rw [q] at h
  exact absurd h (by decide)
theorem case_empty (G : Gl) (d : Nat) (hd : 8 ≤ d) (X : Sh) (b m : Nat) (hS : Sh9 X b) (hM : Sh10 X m) (x1 x2 : Int32) : Case G d X b m m_X10_empty m_X11_empty [.int x1, .int x2] := by
  obtain ⟨d, rfl⟩ : ∃ d1, d = d1 + 1 := ⟨d - 1, by omega⟩
  refine Case.pure (fun M nb nl nx nt nd la hh hr => ⟨s_empty (mI M (m + 1)) nb x1 x2, ?_, ?_⟩)
  · obtain ⟨⟨w0, w1, _⟩, hB, _⟩ := hh
    refine Cn.of (by decide) (Nat.le_of_ble_eq_true rfl) (bX10_empty_0 hS ⟨fun h => ?_, fun h => ⟨fun h2 => ?_, fun h2 => ?_⟩⟩)
    · rw [hB.1] at h
      exact ⟨rfl, (if_neg h).symm⟩
    · rw [hB.1] at h
      obtain ⟨i, hi, rfl⟩ := ix_of (by omega) h.1 h.2
      obtain ⟨b0, b1, b2, b3, b4⟩ := hB.2.2.1 i hi
      refine ⟨i, rfl, by omega, ne0_of h2.1, rfl, ?_⟩
      unfold s_empty
      rw [if_pos h, if_pos h2, nI_clamp (by omega), b3]
    · rw [hB.1] at h
      exact ⟨rfl, ((if_pos h).trans (if_neg h2)).symm⟩
  · obtain ⟨⟨w0, w1, _⟩, _⟩ := hh
    refine Cn.of (by decide) (Nat.le_of_ble_eq_true rfl) (bX11_empty_0 hM (by omega) ⟨fun h => ?_, fun h => ⟨fun h2 => ?_, fun h2 => ?_⟩⟩)
    · rw [w0, has_iff (by omega)] at h
      exact ⟨rfl, (if_neg h).symm⟩
    · rw [w0, has_iff (by omega)] at h
      exact ⟨rfl, ((if_pos h).trans (if_neg h2)).symm⟩
    · rw [w0, has_iff (by omega)] at h
      obtain ⟨i, hi, rfl⟩ := ix_of (by omega) h.1 h.2
      refine ⟨23 + 5 * i, (by first | rfl | (simp only [n_lit, nI_add, pk_mul]; done) | (simp only [n_lit, nI_add, pk_mul]; exact congrArg nI (by omega))), by omega, ne0_of h2.1, rfl, ?_⟩
      unfold s_empty
      rw [if_pos h, if_pos h2, nI_clamp (by omega)]
theorem bX10_hearth_0 {G : Gl} {d : Nat} {X : Sh} {M : Mm} {Q : Mm → Int32 → Prop} {a : Nat} {x1 : Int32} (hS : Sh9 X a) (hd : 1 ≤ d) (h : ((x1 = 0 → Q M (mI M ((a + 1) + 8) 1)) ∧ (x1 = 1 → Q M (mI M ((a + 1) + 8) 2)) ∧ (x1 = 2 → Q M (mI M ((a + 1) + 8) 3)) ∧ (x1 = 3 → Q M (f_basic (mI M ((a + 1) + 8) 3) (mI M ((a + 1) + 8) 2))) ∧ (x1 ≠ 0 → x1 ≠ 1 → x1 ≠ 2 → x1 ≠ 3 → Q M (-1000000001)))) : Wn G m_X10_hearth (d + 1) 0 [(0, .ref a), (1, .int x1)] [] X M Q := by
  refine wp_iload_n 1 dX10_hearth_0 rfl rfl ?_
  by_cases c1 : x1 = 0
  · replace h := h.1 c1
    refine wp_tblIn (tgt := 32) (off := 31) dX10_hearth_1 (by rw [c1]; decide) (by rw [c1]; decide) (by rw [c1]; rfl) (by decide) ?_
    refine wp_aload_n 0 dX10_hearth_32 rfl rfl ?_
    refine wp_getR dX10_hearth_33 fl_RX10_10 rfl (sh9_K hS) (sh9_F_house hS) ?_
    refine wp_getR dX10_hearth_36 fl_RX10_117 rfl (sh2_K (sh9_S_house hS)) (sh2_F_furnace (sh9_S_house hS)) ?_
    refine wp_getI dX10_hearth_39 fl_RX10_181 rfl (sh1_K (sh2_S_furnace (sh9_S_house hS))) ?_
    exact wn_iret dX10_hearth_42 rfl h
  by_cases c2 : x1 = 1
  · replace h := h.2.1 c2
    refine wp_tblIn (tgt := 43) (off := 42) dX10_hearth_1 (by rw [c2]; decide) (by rw [c2]; decide) (by rw [c2]; rfl) (by decide) ?_
    refine wp_aload_n 0 dX10_hearth_43 rfl rfl ?_
    refine wp_getR dX10_hearth_44 fl_RX10_10 rfl (sh9_K hS) (sh9_F_house hS) ?_
    refine wp_getR dX10_hearth_47 fl_RX10_117 rfl (sh2_K (sh9_S_house hS)) (sh2_F_furnace (sh9_S_house hS)) ?_
    refine wp_getI dX10_hearth_50 fl_RX10_184 rfl (sh1_K (sh2_S_furnace (sh9_S_house hS))) ?_
    exact wn_iret dX10_hearth_53 rfl h
  by_cases c3 : x1 = 2
  · replace h := h.2.2.1 c3
    refine wp_tblIn (tgt := 54) (off := 53) dX10_hearth_1 (by rw [c3]; decide) (by rw [c3]; decide) (by rw [c3]; rfl) (by decide) ?_
    refine wp_aload_n 0 dX10_hearth_54 rfl rfl ?_
    refine wp_getR dX10_hearth_55 fl_RX10_10 rfl (sh9_K hS) (sh9_F_house hS) ?_
    refine wp_getR dX10_hearth_58 fl_RX10_117 rfl (sh2_K (sh9_S_house hS)) (sh2_F_furnace (sh9_S_house hS)) ?_
    refine wp_getI dX10_hearth_61 fl_RX10_187 rfl (sh1_K (sh2_S_furnace (sh9_S_house hS))) ?_
    exact wn_iret dX10_hearth_64 rfl h
  by_cases c4 : x1 = 3
  · replace h := h.2.2.2.1 c4
    refine wp_tblIn (tgt := 65) (off := 64) dX10_hearth_1 (by rw [c4]; decide) (by rw [c4]; decide) (by rw [c4]; rfl) (by decide) ?_
    refine wp_aload_n 0 dX10_hearth_65 rfl rfl ?_
    refine wp_getR dX10_hearth_66 fl_RX10_10 rfl (sh9_K hS) (sh9_F_house hS) ?_
    refine wp_getR dX10_hearth_69 fl_RX10_117 rfl (sh2_K (sh9_S_house hS)) (sh2_F_furnace (sh9_S_house hS)) ?_
    refine wp_cvip dX10_hearth_72 ck_RX10_190 (sh1_K (sh2_S_furnace (sh9_S_house hS))) (as := []) rfl rfl (Nat.le_of_ble_eq_true rfl) (cp_X1_basic G d (by omega) X M ((a + 1) + 8) (sh2_S_furnace (sh9_S_house hS))) ?_
    exact wn_iret dX10_hearth_75 rfl h
  replace h := h.2.2.2.2 c1 c2 c3 c4
  have ec1 := ne_ti (z := 0) c1 rfl
  have ec2 := ne_ti (z := 1) c2 rfl
  have ec3 := ne_ti (z := 2) c3 rfl
  have ec4 := ne_ti (z := 3) c4 rfl
  refine wp_tblOut (tgt := 76) dX10_hearth_1 (by omega) (by decide) ?_
  refine wp_ldc dX10_hearth_76 kc_RX10_67 ?_
  exact wn_iret dX10_hearth_78 rfl h
theorem bX11_hearth_0 {G : Gl} {d : Nat} {X : Sh} {M : Mm} {Q : Mm → Int32 → Prop} {a : Nat} {x1 : Int32} (hS : Sh10 X a) (h : ((0 ≤ x1 ∧ x1 ≤ 3 → ((3 ≤ x1 → Q M (f_basic (mI M (a + 1) 11) (mI M (a + 1) 10))) ∧ (¬ (3 ≤ x1) → (∃ j3 : Nat, (9 + x1) = nI j3 ∧ j3 < 2950 ∧ Q M (mI M (a + 1) j3))))) ∧ (¬ (0 ≤ x1 ∧ x1 ≤ 3) → Q M (-1000000001)))) : Wn G m_X11_hearth (d + 1) 0 [(0, .ref a), (1, .int x1)] [] X M Q := by
  refine wp_iload_n 1 dX11_hearth_0 rfl rfl ?_
  refine wp_i2l dX11_hearth_1 ?_
  refine wp_lconst (v := 0) dX11_hearth_2 rfl ?_
  refine wp_ldc2 dX11_hearth_3 kc_RX11_111 ?_
  refine wp_csip dX11_hearth_6 ck_RX11_78 rfl (as := [.long x1.toInt64, .long 0, .long 3]) rfl rfl (Nat.le_of_ble_eq_true rfl) (cp_X11_isIn G d X M x1 0 3 (by decide) (by decide)) ?_
  refine wp_ifB_ne (inferInstance) (tgt := 17) dX11_hearth_9 (by decide) (fun c1 => ?_) (fun c1 => ?_)
  · replace h := h.1 c1
    refine wp_iload_n 1 dX11_hearth_17 rfl rfl ?_
    refine wp_iconst (v := 3) dX11_hearth_18 rfl ?_
    refine wp_icmp_ge (tgt := 34) dX11_hearth_19 (by decide) (fun c2 => ?_) (fun c2 => ?_)
    · replace h := h.1 c2
      refine wp_aload_n 0 dX11_hearth_34 rfl rfl ?_
      refine wp_cvip dX11_hearth_35 ck_RX11_206 (sh10_K hS) (as := []) rfl rfl (Nat.le_of_ble_eq_true rfl) (cp_X11_basic G d X M a hS) ?_
      exact wn_iret dX11_hearth_38 rfl h
    · replace h := h.2 c2
      refine wp_aload_n 0 dX11_hearth_22 rfl rfl ?_
      refine wp_getR dX11_hearth_23 fl_RX11_7 rfl (sh10_K hS) (sh10_F_s hS) ?_
      refine wp_bipush (v := 9) dX11_hearth_26 rfl ?_
      refine wp_iload_n 1 dX11_hearth_28 rfl rfl ?_
      refine wp_iadd dX11_hearth_29 ?_
      obtain ⟨j3, o4, o5, h⟩ := h
      refine wp_iald (n := 2950) dX11_hearth_30 (sh10_K_s hS) (sh10_N_s hS) (by decide) o4 o5 ?_
      refine wp_goto (tgt := 38) dX11_hearth_31 (by decide) ?_
      exact wn_iret dX11_hearth_38 rfl h
  · replace h := h.2 c1
    refine wp_ldc dX11_hearth_12 kc_RX11_100 ?_
    refine wp_goto (tgt := 38) dX11_hearth_14 (by decide) ?_
    exact wn_iret dX11_hearth_38 rfl h
theorem case_hearth (G : Gl) (d : Nat) (hd : 8 ≤ d) (X : Sh) (b m : Nat) (hS : Sh9 X b) (hM : Sh10 X m) (x1 : Int32) : Case G d X b m m_X10_hearth m_X11_hearth [.int x1] := by
  obtain ⟨d, rfl⟩ : ∃ d1, d = d1 + 1 := ⟨d - 1, by omega⟩
  refine Case.pure (fun M nb nl nx nt nd la hh hr => ⟨if x1 = 0 then mI M (m + 1) 9 else if x1 = 1 then mI M (m + 1) 10 else if x1 = 2 then mI M (m + 1) 11 else if x1 = 3 then f_basic (mI M (m + 1) 11) (mI M (m + 1) 10) else -1000000001, ?_, ?_⟩)
  · obtain ⟨hW, hB, hF, hT, hD, hR⟩ := hh
    obtain ⟨d0, d1, d2, d3, d5, d6⟩ := hF.2.1
    refine Cn.of (by decide) (Nat.le_of_ble_eq_true rfl) (bX10_hearth_0 hS (by omega) ⟨fun q => ⟨rfl, ?_⟩, fun q => ⟨rfl, ?_⟩, fun q => ⟨rfl, ?_⟩, fun q => ⟨rfl, ?_⟩, fun q0 q1 q2 q3 => ⟨rfl, ?_⟩⟩)
    · subst q
      exact d1
    · subst q
      exact d2
    · subst q
      exact d3
    · subst q
      rw [d2, d3]
      rfl
    · rw [if_neg q0, if_neg q1, if_neg q2, if_neg q3]
  · refine Cn.of (by decide) (Nat.le_of_ble_eq_true rfl) (bX11_hearth_0 hM ⟨fun h => ?_, fun h => ⟨rfl, ?_⟩⟩)
    · obtain ⟨k, hk, rfl⟩ := ix_le (nb := 3) (by omega) h.1 h.2
      refine ⟨fun h3 => ?_, fun h3 => ?_⟩
      · have := (nI_leI (a := 3) (by omega) (by omega)).mp h3
        have : k = 3 := by omega
        subst this
        exact ⟨rfl, rfl⟩
      · have : k < 3 := by
          by_cases q : k < 3
          · exact q
          · exact absurd ((nI_leI (a := 3) (by omega) (by omega)).mpr (by omega)) h3
        refine ⟨9 + k, (by first | rfl | (simp only [n_lit, nI_add, pk_mul]; done) | (simp only [n_lit, nI_add, pk_mul]; exact congrArg nI (by omega))), by omega, rfl, ?_⟩
        match k, this with
        | 0, _ => rfl
        | 1, _ => rfl
        | 2, _ => rfl
    · have q : ∀ k : Nat, k ≤ 3 → ¬ x1 = nI k := fun k hk e2 => h (by
        rw [e2]
        exact ⟨nI_pos' (by omega), (nI_leI (b := 3) (by omega) (by omega)).mpr hk⟩)
      rw [if_neg (show ¬ _ = (0 : Int32) from q 0 (by omega)), if_neg (show ¬ _ = (1 : Int32) from q 1 (by omega)), if_neg (show ¬ _ = (2 : Int32) from q 2 (by omega)), if_neg (show ¬ _ = (3 : Int32) from q 3 (by omega))]
theorem bX10_count_0 {G : Gl} {d : Nat} {X : Sh} {M : Mm} {Q : Mm → Int32 → Prop} {a : Nat} {x1 : Int32} (hS : Sh9 X a) (h : ((x1 = 0 → Q M (mI M ((a + 1) + 1) 5)) ∧ (x1 = 1 → Q M (mI M ((a + 1) + 8) 5)) ∧ (x1 = 2 → (∃ q4 : Mm → Int32 → Prop, Cn G m_X1_allBulk d [.ref ((a + 1) + 8)] X M q4 ∧ ∀ M6 r7, q4 M6 r7 → Q M6 r7)) ∧ (x1 = 3 → Q M (mI M ((a + 1) + 62) 5)) ∧ (x1 = 4 → Q M (mI M ((a + 1) + 1) 7)) ∧ (x1 = 5 → Q M (mI M ((a + 1) + 82) 2)) ∧ (x1 = 6 → Q M (mI M ((a + 1) + 8) 0)) ∧ (x1 = 7 → Q M (mI M a 8)) ∧ (x1 = 8 → Q M (mI M (a + 227) 1)) ∧ (x1 ≠ 0 → x1 ≠ 1 → x1 ≠ 2 → x1 ≠ 3 → x1 ≠ 4 → x1 ≠ 5 → x1 ≠ 6 → x1 ≠ 7 → x1 ≠ 8 → Q M (-1000000001)))) : Wn G m_X10_count (d + 1) 0 [(0, .ref a), (1, .int x1)] [] X M Q := by
  refine wp_iload_n 1 dX10_count_0 rfl rfl ?_
  by_cases c1 : x1 = 0
  · replace h := h.1 c1
    refine wp_tblIn (tgt := 52) (off := 51) dX10_count_1 (by rw [c1]; decide) (by rw [c1]; decide) (by rw [c1]; rfl) (by decide) ?_
    refine wp_aload_n 0 dX10_count_52 rfl rfl ?_
    refine wp_getR dX10_count_53 fl_RX10_10 rfl (sh9_K hS) (sh9_F_house hS) ?_
    refine wp_getR dX10_count_56 fl_RX10_68 rfl (sh2_K (sh9_S_house hS)) (sh2_F_bins (sh9_S_house hS)) ?_
    refine wp_getI dX10_count_59 fl_RX10_345 rfl (sh0_K (sh2_S_bins (sh9_S_house hS))) ?_
    exact wn_iret dX10_count_62 rfl h
  by_cases c2 : x1 = 1
  · replace h := h.2.1 c2
    refine wp_tblIn (tgt := 63) (off := 62) dX10_count_1 (by rw [c2]; decide) (by rw [c2]; decide) (by rw [c2]; rfl) (by decide) ?_
    refine wp_aload_n 0 dX10_count_63 rfl rfl ?_
    refine wp_getR dX10_count_64 fl_RX10_10 rfl (sh9_K hS) (sh9_F_house hS) ?_
    refine wp_getR dX10_count_67 fl_RX10_117 rfl (sh2_K (sh9_S_house hS)) (sh2_F_furnace (sh9_S_house hS)) ?_
    refine wp_getI dX10_count_70 fl_RX10_128 rfl (sh1_K (sh2_S_furnace (sh9_S_house hS))) ?_
    exact wn_iret dX10_count_73 rfl h
  by_cases c3 : x1 = 2
  · replace h := h.2.2.1 c3
    refine wp_tblIn (tgt := 74) (off := 73) dX10_count_1 (by rw [c3]; decide) (by rw [c3]; decide) (by rw [c3]; rfl) (by decide) ?_
    refine wp_aload_n 0 dX10_count_74 rfl rfl ?_
    refine wp_getR dX10_count_75 fl_RX10_10 rfl (sh9_K hS) (sh9_F_house hS) ?_
    refine wp_getR dX10_count_78 fl_RX10_117 rfl (sh2_K (sh9_S_house hS)) (sh2_F_furnace (sh9_S_house hS)) ?_
    obtain ⟨q4, o5, h⟩ := h
    refine wp_cvi dX10_count_81 ck_RX10_339 (sh1_K (sh2_S_furnace (sh9_S_house hS))) (as := []) rfl rfl (Nat.le_of_ble_eq_true rfl) o5 (fun M6 r7 o8 => ?_)
    replace h := h M6 r7 o8
    exact wn_iret dX10_count_84 rfl h
  by_cases c9 : x1 = 3
  · replace h := h.2.2.2.1 c9
    refine wp_tblIn (tgt := 85) (off := 84) dX10_count_1 (by rw [c9]; decide) (by rw [c9]; decide) (by rw [c9]; rfl) (by decide) ?_
    refine wp_aload_n 0 dX10_count_85 rfl rfl ?_
    refine wp_getR dX10_count_86 fl_RX10_10 rfl (sh9_K hS) (sh9_F_house hS) ?_
    refine wp_getR dX10_count_89 fl_RX10_209 rfl (sh2_K (sh9_S_house hS)) (sh2_F_texts (sh9_S_house hS)) ?_
    refine wp_getI dX10_count_92 fl_RX10_346 rfl (sh8_K (sh2_S_texts (sh9_S_house hS))) ?_
    exact wn_iret dX10_count_95 rfl h
  by_cases c10 : x1 = 4
  · replace h := h.2.2.2.2.1 c10
    refine wp_tblIn (tgt := 96) (off := 95) dX10_count_1 (by rw [c10]; decide) (by rw [c10]; decide) (by rw [c10]; rfl) (by decide) ?_
    refine wp_aload_n 0 dX10_count_96 rfl rfl ?_
    refine wp_getR dX10_count_97 fl_RX10_10 rfl (sh9_K hS) (sh9_F_house hS) ?_
    refine wp_getR dX10_count_100 fl_RX10_68 rfl (sh2_K (sh9_S_house hS)) (sh2_F_bins (sh9_S_house hS)) ?_
    refine wp_getI dX10_count_103 fl_RX10_237 rfl (sh0_K (sh2_S_bins (sh9_S_house hS))) ?_
    exact wn_iret dX10_count_106 rfl h
  by_cases c11 : x1 = 5
  · replace h := h.2.2.2.2.2.1 c11
    refine wp_tblIn (tgt := 107) (off := 106) dX10_count_1 (by rw [c11]; decide) (by rw [c11]; decide) (by rw [c11]; rfl) (by decide) ?_
    refine wp_aload_n 0 dX10_count_107 rfl rfl ?_
    refine wp_getR dX10_count_108 fl_RX10_10 rfl (sh9_K hS) (sh9_F_house hS) ?_
    refine wp_getR dX10_count_111 fl_RX10_250 rfl (sh2_K (sh9_S_house hS)) (sh2_F_ladles (sh9_S_house hS)) ?_
    refine wp_getI dX10_count_114 fl_RX10_267 rfl (sh3_K (sh2_S_ladles (sh9_S_house hS))) ?_
    exact wn_iret dX10_count_117 rfl h
  by_cases c12 : x1 = 6
  · replace h := h.2.2.2.2.2.2.1 c12
    refine wp_tblIn (tgt := 118) (off := 117) dX10_count_1 (by rw [c12]; decide) (by rw [c12]; decide) (by rw [c12]; rfl) (by decide) ?_
    refine wp_aload_n 0 dX10_count_118 rfl rfl ?_
    refine wp_getR dX10_count_119 fl_RX10_10 rfl (sh9_K hS) (sh9_F_house hS) ?_
    refine wp_getR dX10_count_122 fl_RX10_117 rfl (sh2_K (sh9_S_house hS)) (sh2_F_furnace (sh9_S_house hS)) ?_
    refine wp_getI dX10_count_125 fl_RX10_172 rfl (sh1_K (sh2_S_furnace (sh9_S_house hS))) ?_
    exact wn_iret dX10_count_128 rfl h
  by_cases c13 : x1 = 7
  · replace h := h.2.2.2.2.2.2.2.1 c13
    refine wp_tblIn (tgt := 129) (off := 128) dX10_count_1 (by rw [c13]; decide) (by rw [c13]; decide) (by rw [c13]; rfl) (by decide) ?_
    refine wp_aload_n 0 dX10_count_129 rfl rfl ?_
    refine wp_getI dX10_count_130 fl_RX10_55 rfl (sh9_K hS) ?_
    exact wn_iret dX10_count_133 rfl h
  by_cases c14 : x1 = 8
  · replace h := h.2.2.2.2.2.2.2.2.1 c14
    refine wp_tblIn (tgt := 134) (off := 133) dX10_count_1 (by rw [c14]; decide) (by rw [c14]; decide) (by rw [c14]; rfl) (by decide) ?_
    refine wp_aload_n 0 dX10_count_134 rfl rfl ?_
    refine wp_getR dX10_count_135 fl_RX10_33 rfl (sh9_K hS) (sh9_F_tape hS) ?_
    refine wp_getI dX10_count_138 fl_RX10_200 rfl (sh7_K (sh9_S_tape hS)) ?_
    exact wn_iret dX10_count_141 rfl h
  replace h := h.2.2.2.2.2.2.2.2.2 c1 c2 c3 c9 c10 c11 c12 c13 c14
  have ec1 := ne_ti (z := 0) c1 rfl
  have ec2 := ne_ti (z := 1) c2 rfl
  have ec3 := ne_ti (z := 2) c3 rfl
  have ec9 := ne_ti (z := 3) c9 rfl
  have ec10 := ne_ti (z := 4) c10 rfl
  have ec11 := ne_ti (z := 5) c11 rfl
  have ec12 := ne_ti (z := 6) c12 rfl
  have ec13 := ne_ti (z := 7) c13 rfl
  have ec14 := ne_ti (z := 8) c14 rfl
  refine wp_tblOut (tgt := 142) dX10_count_1 (by omega) (by decide) ?_
  refine wp_ldc dX10_count_142 kc_RX10_67 ?_
  exact wn_iret dX10_count_144 rfl h
theorem bX11_count_0 {G : Gl} {d : Nat} {X : Sh} {M : Mm} {Q : Mm → Int32 → Prop} {a : Nat} {x1 : Int32} (hS : Sh10 X a) (h : ((x1 = 0 → Q M (mI M (a + 1) 0)) ∧ (x1 = 1 → Q M (mI M (a + 1) 1)) ∧ (x1 = 2 → (∃ q4 : Mm → Int32 → Prop, Cn G m_X11_allBulk d [.ref a] X M q4 ∧ ∀ M6 r7, q4 M6 r7 → Q M6 r7)) ∧ (x1 = 3 → Q M (mI M (a + 1) 2)) ∧ (x1 = 4 → Q M (mI M (a + 1) 3)) ∧ (x1 = 5 → Q M (mI M (a + 1) 4)) ∧ (x1 = 6 → Q M (mI M (a + 1) 5)) ∧ (x1 = 7 → Q M (mI M a 34)) ∧ (x1 = 8 → Q M (mI M a 19)) ∧ (x1 ≠ 0 → x1 ≠ 1 → x1 ≠ 2 → x1 ≠ 3 → x1 ≠ 4 → x1 ≠ 5 → x1 ≠ 6 → x1 ≠ 7 → x1 ≠ 8 → Q M (-1000000001)))) : Wn G m_X11_count (d + 1) 0 [(0, .ref a), (1, .int x1)] [] X M Q := by
  refine wp_iload_n 1 dX11_count_0 rfl rfl ?_
  by_cases c1 : x1 = 0
  · replace h := h.1 c1
    refine wp_tblIn (tgt := 52) (off := 51) dX11_count_1 (by rw [c1]; decide) (by rw [c1]; decide) (by rw [c1]; rfl) (by decide) ?_
    refine wp_aload_n 0 dX11_count_52 rfl rfl ?_
    refine wp_getR dX11_count_53 fl_RX11_7 rfl (sh10_K hS) (sh10_F_s hS) ?_
    refine wp_iconst (v := 0) dX11_count_56 rfl ?_
    refine wp_iald (n := 2950) dX11_count_57 (sh10_K_s hS) (sh10_N_s hS) (by decide) rfl (by decide) ?_
    exact wn_iret dX11_count_58 rfl h
  by_cases c2 : x1 = 1
  · replace h := h.2.1 c2
    refine wp_tblIn (tgt := 59) (off := 58) dX11_count_1 (by rw [c2]; decide) (by rw [c2]; decide) (by rw [c2]; rfl) (by decide) ?_
    refine wp_aload_n 0 dX11_count_59 rfl rfl ?_
    refine wp_getR dX11_count_60 fl_RX11_7 rfl (sh10_K hS) (sh10_F_s hS) ?_
    refine wp_iconst (v := 1) dX11_count_63 rfl ?_
    refine wp_iald (n := 2950) dX11_count_64 (sh10_K_s hS) (sh10_N_s hS) (by decide) rfl (by decide) ?_
    exact wn_iret dX11_count_65 rfl h
  by_cases c3 : x1 = 2
  · replace h := h.2.2.1 c3
    refine wp_tblIn (tgt := 66) (off := 65) dX11_count_1 (by rw [c3]; decide) (by rw [c3]; decide) (by rw [c3]; rfl) (by decide) ?_
    refine wp_aload_n 0 dX11_count_66 rfl rfl ?_
    obtain ⟨q4, o5, h⟩ := h
    refine wp_cvi dX11_count_67 ck_RX11_344 (sh10_K hS) (as := []) rfl rfl (Nat.le_of_ble_eq_true rfl) o5 (fun M6 r7 o8 => ?_)
    replace h := h M6 r7 o8
    exact wn_iret dX11_count_70 rfl h
  by_cases c9 : x1 = 3
  · replace h := h.2.2.2.1 c9
    refine wp_tblIn (tgt := 71) (off := 70) dX11_count_1 (by rw [c9]; decide) (by rw [c9]; decide) (by rw [c9]; rfl) (by decide) ?_
    refine wp_aload_n 0 dX11_count_71 rfl rfl ?_
    refine wp_getR dX11_count_72 fl_RX11_7 rfl (sh10_K hS) (sh10_F_s hS) ?_
    refine wp_iconst (v := 2) dX11_count_75 rfl ?_
    refine wp_iald (n := 2950) dX11_count_76 (sh10_K_s hS) (sh10_N_s hS) (by decide) rfl (by decide) ?_
    exact wn_iret dX11_count_77 rfl h
  by_cases c10 : x1 = 4
  · replace h := h.2.2.2.2.1 c10
    refine wp_tblIn (tgt := 78) (off := 77) dX11_count_1 (by rw [c10]; decide) (by rw [c10]; decide) (by rw [c10]; rfl) (by decide) ?_
    refine wp_aload_n 0 dX11_count_78 rfl rfl ?_
    refine wp_getR dX11_count_79 fl_RX11_7 rfl (sh10_K hS) (sh10_F_s hS) ?_
    refine wp_iconst (v := 3) dX11_count_82 rfl ?_
    refine wp_iald (n := 2950) dX11_count_83 (sh10_K_s hS) (sh10_N_s hS) (by decide) rfl (by decide) ?_
    exact wn_iret dX11_count_84 rfl h
  by_cases c11 : x1 = 5
  · replace h := h.2.2.2.2.2.1 c11
    refine wp_tblIn (tgt := 85) (off := 84) dX11_count_1 (by rw [c11]; decide) (by rw [c11]; decide) (by rw [c11]; rfl) (by decide) ?_
    refine wp_aload_n 0 dX11_count_85 rfl rfl ?_
    refine wp_getR dX11_count_86 fl_RX11_7 rfl (sh10_K hS) (sh10_F_s hS) ?_
    refine wp_iconst (v := 4) dX11_count_89 rfl ?_
    refine wp_iald (n := 2950) dX11_count_90 (sh10_K_s hS) (sh10_N_s hS) (by decide) rfl (by decide) ?_
    exact wn_iret dX11_count_91 rfl h
  by_cases c12 : x1 = 6
  · replace h := h.2.2.2.2.2.2.1 c12
    refine wp_tblIn (tgt := 92) (off := 91) dX11_count_1 (by rw [c12]; decide) (by rw [c12]; decide) (by rw [c12]; rfl) (by decide) ?_
    refine wp_aload_n 0 dX11_count_92 rfl rfl ?_
    refine wp_getR dX11_count_93 fl_RX11_7 rfl (sh10_K hS) (sh10_F_s hS) ?_
    refine wp_iconst (v := 5) dX11_count_96 rfl ?_
    refine wp_iald (n := 2950) dX11_count_97 (sh10_K_s hS) (sh10_N_s hS) (by decide) rfl (by decide) ?_
    exact wn_iret dX11_count_98 rfl h
  by_cases c13 : x1 = 7
  · replace h := h.2.2.2.2.2.2.2.1 c13
    refine wp_tblIn (tgt := 99) (off := 98) dX11_count_1 (by rw [c13]; decide) (by rw [c13]; decide) (by rw [c13]; rfl) (by decide) ?_
    refine wp_aload_n 0 dX11_count_99 rfl rfl ?_
    refine wp_getI dX11_count_100 fl_RX11_335 rfl (sh10_K hS) ?_
    exact wn_iret dX11_count_103 rfl h
  by_cases c14 : x1 = 8
  · replace h := h.2.2.2.2.2.2.2.2.1 c14
    refine wp_tblIn (tgt := 104) (off := 103) dX11_count_1 (by rw [c14]; decide) (by rw [c14]; decide) (by rw [c14]; rfl) (by decide) ?_
    refine wp_aload_n 0 dX11_count_104 rfl rfl ?_
    refine wp_getI dX11_count_105 fl_RX11_219 rfl (sh10_K hS) ?_
    exact wn_iret dX11_count_108 rfl h
  replace h := h.2.2.2.2.2.2.2.2.2 c1 c2 c3 c9 c10 c11 c12 c13 c14
  have ec1 := ne_ti (z := 0) c1 rfl
  have ec2 := ne_ti (z := 1) c2 rfl
  have ec3 := ne_ti (z := 2) c3 rfl
  have ec9 := ne_ti (z := 3) c9 rfl
  have ec10 := ne_ti (z := 4) c10 rfl
  have ec11 := ne_ti (z := 5) c11 rfl
  have ec12 := ne_ti (z := 6) c12 rfl
  have ec13 := ne_ti (z := 7) c13 rfl
  have ec14 := ne_ti (z := 8) c14 rfl
  refine wp_tblOut (tgt := 109) dX11_count_1 (by omega) (by decide) ?_
  refine wp_ldc dX11_count_109 kc_RX11_100 ?_
  exact wn_iret dX11_count_111 rfl h
theorem FR.all {M : Mm} {f nl : Nat} {σ : Nat → Int32} {la : Nat → Nat} (h : FR M f σ nl la) : s_sum (mI M (f + 50)) 0 5 = s_allBulk σ nl := s_sum_cong (fun r hr => h.2.1.2.2.2.2.2 r hr)
theorem case_count (G : Gl) (d : Nat) (hd : 8 ≤ d) (X : Sh) (b m : Nat) (hS : Sh9 X b) (hM : Sh10 X m) (x1 : Int32) : Case G d X b m m_X10_count m_X11_count [.int x1] := by
  obtain ⟨d, rfl⟩ : ∃ d1, d = d1 + 1 := ⟨d - 1, by omega⟩
  refine Case.pure (fun M nb nl nx nt nd la hh hr => ?_)
  obtain ⟨⟨w0, w1, w2, w3, w4, w5, w6, w7, w8, w9, _⟩, hB, hF, hT, hD, hR⟩ := hh
  obtain ⟨_, _, ⟨tn, t0, t1, t2, _⟩, _, _, ⟨wn, z0, z1, z2, _⟩⟩ := hr
  obtain ⟨d0, d1, d2, d3, d5, d6⟩ := hF.2.1
  have e7 := hB.2.1
  refine ⟨if x1 = 0 then nI nb else if x1 = 1 then nI nl else if x1 = 2 then s_allBulk (mI M (m + 1)) nl else if x1 = 3 then nI nx else if x1 = 4 then mI M (m + 1) 3 else if x1 = 5 then nI nd else if x1 = 6 then mI M (m + 1) 5 else if x1 = 7 then nI wn else if x1 = 8 then nI tn else -1000000001, ?_, ?_⟩
  · refine Cn.of (by decide) (Nat.le_of_ble_eq_true rfl) (bX10_count_0 hS ⟨fun q => ⟨rfl, ?_⟩, fun q => ⟨rfl, ?_⟩, fun q => ?_, fun q => ⟨rfl, ?_⟩, fun q => ⟨rfl, ?_⟩, fun q => ⟨rfl, ?_⟩, fun q => ⟨rfl, ?_⟩, fun q => ⟨rfl, ?_⟩, fun q => ⟨rfl, ?_⟩, fun q0 q1 q2 q3 q4 q5 q6 q7 q8 => ⟨rfl, ?_⟩⟩)
    · subst q
      exact hB.1
    · subst q
      exact d5
    · subst q
      refine ⟨_, cp_X1_allBulk G d X M (b + 1 + 8) (sh2_S_furnace (sh9_S_house hS)), fun M6 r7 h => ?_⟩
      refine ⟨h.1, ?_⟩
      rw [h.2, hF.all]
      rfl
    · subst q
      exact hT.1
    · subst q
      exact e7
    · subst q
      exact hD.1
    · subst q
      exact d0
    · subst q
      exact z1
    · subst q
      exact t1
    · rw [if_neg q0, if_neg q1, if_neg q2, if_neg q3, if_neg q4, if_neg q5, if_neg q6, if_neg q7, if_neg q8]
  · refine Cn.of (by decide) (Nat.le_of_ble_eq_true rfl) (bX11_count_0 hM ⟨fun q => ⟨rfl, ?_⟩, fun q => ⟨rfl, ?_⟩, fun q => ?_, fun q => ⟨rfl, ?_⟩, fun q => ⟨rfl, ?_⟩, fun q => ⟨rfl, ?_⟩, fun q => ⟨rfl, ?_⟩, fun q => ⟨rfl, ?_⟩, fun q => ⟨rfl, ?_⟩, fun q0 q1 q2 q3 q4 q5 q6 q7 q8 => ⟨rfl, ?_⟩⟩)
    · subst q
      exact w0
    · subst q
      exact w2
    · subst q
      refine ⟨_, cp_X11_allBulk G d (by omega) X M m nl hM w2 w3, fun M6 r7 h => ⟨h.1, h.2⟩⟩
    · subst q
      exact w4
    · subst q
      rfl
    · subst q
      exact w8
    · subst q
      rfl
    · subst q
      exact z2
    · subst q
      exact t2
    · rw [if_neg q0, if_neg q1, if_neg q2, if_neg q3, if_neg q4, if_neg q5, if_neg q6, if_neg q7, if_neg q8]
