/-! calls: ring, round -/
def OffS (h : Nat) (M M2 : Mm) : Prop := (∀ c, ¬ Scr h c → mI M2 c = mI M c) ∧ mR M2 = mR M
def OffP (m : Nat) (M M2 : Mm) : Prop := (∀ c, c ≠ m + 13 → c ≠ m + 18 → c ≠ m + 19 → mI M2 c = mI M c) ∧ mR M2 = mR M
theorem Sim.scr {M M2 M3 : Mm} {b m : Nat} (h : Sim M b m) (hbm : b + 266 ≤ m) (h1 : OffS (b + 1) M M2) (h2 : OffP m M2 M3) : Sim M3 b m := by
  have e : ∀ c, c < m → ¬ Scr (b + 1) c → mI M3 c = mI M c := fun c hc h4 => by rw [h2.1 c (by omega) (by omega) (by omega), h1.1 c h4]
  have f : ∀ c, m ≤ c → c ≠ m + 13 → c ≠ m + 18 → c ≠ m + 19 → mI M3 c = mI M c := fun c hc h3 h4 h5 => by rw [h2.1 c h3 h4 h5, h1.1 c (by unfold Scr; omega)]
  have r : mR M3 = mR M := h2.2.trans h1.2
  refine ⟨?_, h.2.mem (fun c hc => ?_) (by rw [e b (by omega) (by unfold Scr; omega)]) (by rw [e b (by omega) (by unfold Scr; omega)]) (by rw [e (b + 227) (by omega) (by unfold Scr; omega)]) (by rw [f m (by omega) (by omega) (by omega) (by omega)]) (by rw [f m (by omega) (by omega) (by omega) (by omega)]) (by rw [f m (by omega) (by omega) (by omega) (by omega)]) (by rw [r]) ?_⟩
  · rw [f (m + 1) (by omega) (by omega) (by omega) (by omega)]
    exact h.1.mem (fun c h3 h4 h5 => e c (by omega) h5) (by rw [r])
  · unfold RestK at hc
    by_cases q : c < m
    · exact e c q (by unfold Scr; omega)
    · exact f c (by omega) (by omega) (by omega) (by omega)
  · obtain ⟨la, p⟩ := h.2.2.1.2
    exact ⟨la, p.mR r⟩
theorem FR.top {M : Mm} {f nl r : Nat} {σ : Nat → Int32} {la : Nat → Nat} (h : FR M f σ nl la) (hr : r < 5) : c_top (mI M (f + 50)) r = s_top σ nl r := by
  show mI M (f + 50) r * 100 / areaV r = s_bulkIn σ r nl * 100 / areaV r
  rw [h.2.1.2.2.2.2.2 r hr]
theorem cp_X1_partGasF (G : Gl) (d : Nat) (hd : 2 ≤ d) (X : Sh) (M : Mm) (f nl gas : Nat) (σ : Nat → Int32) (la : Nat → Nat) (hS : Sh1 X f) (hnl : nl ≤ 24) (hF : FR M f σ nl la) (hW : FW σ nl) (hg : gas ≤ 999) : Cv G m_X1_partGas d [.ref f, .int (nI gas)] X M (CGasQ M f (s_parts (nI gas) (s_wts σ nl))) := by
  obtain ⟨W, hWt⟩ := wts_nat hnl hW
  refine cp_X1_partGas G d hd X M f nl la (nI gas) (s_wts σ nl) hS hF.2.1.2.2.2.2.1 hnl (hF.1.lays hS hnl) (fun l hl => ?_) (fun r hr => ?_) (fun r hr => ?_) (fair_nat hWt (by omega))
  · have := hF.1.at (l := l) (by omega)
    omega
  · obtain ⟨R, h1, h2, h3⟩ := res_nat hr hW
    rw [hF.res hr, h3]
    exact (nI_leI (a := 1) (by omega) (by omega)).mpr h1
  · rw [hF.res hr]
    rfl
theorem bX10_ring_0 {G : Gl} {d : Nat} {X : Sh} {M : Mm} {Q : Mm → Int32 → Prop} {a : Nat} {x1 : Int32} {x2 : Int32} (hS : Sh9 X a) (h : ((0 ≤ x1 ∧ x1 ≤ 4 → ((x2 = 0 → (∃ q3 : Mm → Int32 → Prop, Cn G m_X1_topOf d [.ref ((a + 1) + 8), .int x1] X M q3 ∧ ∀ M5 r6, q3 M5 r6 → Q M5 r6)) ∧ (x2 = 1 → (∃ q9 : Mm → Int32 → Prop, Cn G m_X1_resistanceOf d [.ref ((a + 1) + 8), .int x1] X M q9 ∧ ∀ M11 r12, q9 M11 r12 → Q M11 r12)) ∧ (x2 = 2 → (∃ q15 : Mm → Int32 → Prop, Cn G m_X2_gasFor d [.ref (a + 1), .ref ((a + 1) + 8)] X M q15 ∧ ∀ M17 r18, q15 M17 r18 → (∃ q20 : Mm → Prop, Cv G m_X1_partGas d [.ref ((a + 1) + 8), .int r18] X M17 q20 ∧ ∀ M22, q20 M22 → (∃ j24 : Nat, x1 = nI j24 ∧ j24 < 5 ∧ Q M22 (mI M22 (((a + 1) + 8) + 53) j24))))) ∧ (x2 = 3 → (∃ q28 : Mm → Int32 → Prop, Cn G m_X2_gasFor d [.ref (a + 1), .ref ((a + 1) + 8)] X M q28 ∧ ∀ M30 r31, q28 M30 r31 → (∃ q33 : Mm → Prop, Cv G m_X1_partGas d [.ref ((a + 1) + 8), .int r31] X M30 q33 ∧ ∀ M35, q33 M35 → (∃ q37 : Mm → Int32 → Prop, Cn G m_X1_eatenOf d [.ref ((a + 1) + 8), .int x1] X M35 q37 ∧ ∀ M39 r40, q37 M39 r40 → Q M39 r40)))) ∧ (x2 ≠ 0 → x2 ≠ 1 → x2 ≠ 2 → x2 ≠ 3 → Q M (-1000000001)))) ∧ (¬ (0 ≤ x1 ∧ x1 ≤ 4) → Q M (-1000000001)))) : Wn G m_X10_ring (d + 1) 0 [(0, .ref a), (1, .int x1), (2, .int x2)] [] X M Q := by
  refine wp_iload_n 1 dX10_ring_0 rfl rfl ?_
  refine wp_iconst (v := 0) dX10_ring_1 rfl ?_
  refine wp_iconst (v := 4) dX10_ring_2 rfl ?_
  refine wp_csip dX10_ring_3 ck_RX10_63 rfl (as := [.int x1, .int 0, .int 4]) rfl rfl (Nat.le_of_ble_eq_true rfl) (cp_X10_isWithin G d X M x1 0 4) ?_
  refine wp_ifB_ne (inferInstance) (tgt := 12) dX10_ring_6 (by decide) (fun c1 => ?_) (fun c1 => ?_)
  · replace h := h.1 c1
    refine wp_aload_n 0 dX10_ring_12 rfl rfl ?_
    refine wp_getR dX10_ring_13 fl_RX10_10 rfl (sh9_K hS) (sh9_F_house hS) ?_
    refine wp_getR dX10_ring_16 fl_RX10_117 rfl (sh2_K (sh9_S_house hS)) (sh2_F_furnace (sh9_S_house hS)) ?_
    refine wp_astore_n (lo2 := [(3, .ref _), (0, .ref _), (1, .int _), (2, .int _)]) dX10_ring_19 rfl (by decide) rfl ?_
    refine wp_iload_n 3 dX10_ring_20 rfl rfl ?_
    by_cases c2 : x2 = 0
    · replace h := h.1 c2
      refine wp_tblIn (tgt := 52) (off := 31) dX10_ring_21 (by rw [c2]; decide) (by rw [c2]; decide) (by rw [c2]; rfl) (by decide) ?_
      refine wp_aload_n 0 dX10_ring_52 rfl rfl ?_
      refine wp_iload_n 2 dX10_ring_53 rfl rfl ?_
      obtain ⟨q3, o4, h⟩ := h
      refine wp_cvi dX10_ring_54 ck_RX10_152 (sh1_K (sh2_S_furnace (sh9_S_house hS))) (as := [.int x1]) rfl rfl (Nat.le_of_ble_eq_true rfl) o4 (fun M5 r6 o7 => ?_)
      replace h := h M5 r6 o7
      exact wn_iret dX10_ring_57 rfl h
    by_cases c8 : x2 = 1
    · replace h := h.2.1 c8
      refine wp_tblIn (tgt := 58) (off := 37) dX10_ring_21 (by rw [c8]; decide) (by rw [c8]; decide) (by rw [c8]; rfl) (by decide) ?_
      refine wp_aload_n 0 dX10_ring_58 rfl rfl ?_
      refine wp_iload_n 2 dX10_ring_59 rfl rfl ?_
      obtain ⟨q9, o10, h⟩ := h
      refine wp_cvi dX10_ring_60 ck_RX10_155 (sh1_K (sh2_S_furnace (sh9_S_house hS))) (as := [.int x1]) rfl rfl (Nat.le_of_ble_eq_true rfl) o10 (fun M11 r12 o13 => ?_)
      replace h := h M11 r12 o13
      exact wn_iret dX10_ring_63 rfl h
    by_cases c14 : x2 = 2
    · replace h := h.2.2.1 c14
      refine wp_tblIn (tgt := 64) (off := 43) dX10_ring_21 (by rw [c14]; decide) (by rw [c14]; decide) (by rw [c14]; rfl) (by decide) ?_
      refine wp_aload_n 0 dX10_ring_64 rfl rfl ?_
      refine wp_aload_n 1 dX10_ring_65 rfl rfl ?_
      refine wp_getR dX10_ring_66 fl_RX10_10 rfl (sh9_K hS) (sh9_F_house hS) ?_
      refine wp_aload_n 0 dX10_ring_69 rfl rfl ?_
      obtain ⟨q15, o16, h⟩ := h
      refine wp_cvi dX10_ring_70 ck_RX10_158 (sh2_K (sh9_S_house hS)) (as := [.ref ((a + 1) + 8)]) rfl rfl (Nat.le_of_ble_eq_true rfl) o16 (fun M17 r18 o19 => ?_)
      replace h := h M17 r18 o19
      obtain ⟨q20, o21, h⟩ := h
      refine wp_cvv dX10_ring_73 ck_RX10_162 (sh1_K (sh2_S_furnace (sh9_S_house hS))) (as := [.int r18]) rfl rfl (Nat.le_of_ble_eq_true rfl) o21 (fun M22 o23 => ?_)
      replace h := h M22 o23
      refine wp_aload_n 0 dX10_ring_76 rfl rfl ?_
      refine wp_getR dX10_ring_77 fl_RX10_166 rfl (sh1_K (sh2_S_furnace (sh9_S_house hS))) (sh1_F_parts (sh2_S_furnace (sh9_S_house hS))) ?_
      refine wp_iload_n 2 dX10_ring_80 rfl rfl ?_
      obtain ⟨j24, o25, o26, h⟩ := h
      refine wp_iald (n := 5) dX10_ring_81 (sh1_K_parts (sh2_S_furnace (sh9_S_house hS))) (sh1_N_parts (sh2_S_furnace (sh9_S_house hS))) (by decide) o25 o26 ?_
      exact wn_iret dX10_ring_82 rfl h
    by_cases c27 : x2 = 3
    · replace h := h.2.2.2.1 c27
      refine wp_tblIn (tgt := 83) (off := 62) dX10_ring_21 (by rw [c27]; decide) (by rw [c27]; decide) (by rw [c27]; rfl) (by decide) ?_
      refine wp_aload_n 0 dX10_ring_83 rfl rfl ?_
      refine wp_aload_n 1 dX10_ring_84 rfl rfl ?_
      refine wp_getR dX10_ring_85 fl_RX10_10 rfl (sh9_K hS) (sh9_F_house hS) ?_
      refine wp_aload_n 0 dX10_ring_88 rfl rfl ?_
      obtain ⟨q28, o29, h⟩ := h
      refine wp_cvi dX10_ring_89 ck_RX10_158 (sh2_K (sh9_S_house hS)) (as := [.ref ((a + 1) + 8)]) rfl rfl (Nat.le_of_ble_eq_true rfl) o29 (fun M30 r31 o32 => ?_)
      replace h := h M30 r31 o32
      obtain ⟨q33, o34, h⟩ := h
      refine wp_cvv dX10_ring_92 ck_RX10_162 (sh1_K (sh2_S_furnace (sh9_S_house hS))) (as := [.int r31]) rfl rfl (Nat.le_of_ble_eq_true rfl) o34 (fun M35 o36 => ?_)
      replace h := h M35 o36
      refine wp_aload_n 0 dX10_ring_95 rfl rfl ?_
      refine wp_iload_n 2 dX10_ring_96 rfl rfl ?_
      obtain ⟨q37, o38, h⟩ := h
      refine wp_cvi dX10_ring_97 ck_RX10_169 (sh1_K (sh2_S_furnace (sh9_S_house hS))) (as := [.int x1]) rfl rfl (Nat.le_of_ble_eq_true rfl) o38 (fun M39 r40 o41 => ?_)
      replace h := h M39 r40 o41
      exact wn_iret dX10_ring_100 rfl h
    replace h := h.2.2.2.2 c2 c8 c14 c27
    have ec2 := ne_ti (z := 0) c2 rfl
    have ec8 := ne_ti (z := 1) c8 rfl
    have ec14 := ne_ti (z := 2) c14 rfl
    have ec27 := ne_ti (z := 3) c27 rfl
    refine wp_tblOut (tgt := 101) dX10_ring_21 (by omega) (by decide) ?_
    refine wp_ldc dX10_ring_101 kc_RX10_67 ?_
    exact wn_iret dX10_ring_103 rfl h
  · replace h := h.2 c1
    refine wp_ldc dX10_ring_9 kc_RX10_67 ?_
    exact wn_iret dX10_ring_11 rfl h
theorem bX11_ring_0 {G : Gl} {d : Nat} {X : Sh} {M : Mm} {Q : Mm → Int32 → Prop} {a : Nat} {x1 : Int32} {x2 : Int32} (hS : Sh10 X a) (h : ((¬ (0 ≤ x1 ∧ x1 ≤ 4) → Q M (-1000000001)) ∧ (0 ≤ x1 ∧ x1 ≤ 4 → ((0 ≤ x2 ∧ x2 ≤ 3 → ((2 ≤ x2 → (∃ q4 : Mm → Prop, Cv G m_X11_partGas d [.ref a] X M q4 ∧ ∀ M6, q4 M6 → ((¬ (x2 = 2) → (∃ j9 : Nat, x1 = nI j9 ∧ j9 < 5 ∧ Q M6 (((mI M6 (a + 13) j9) / 4) + 1))) ∧ (x2 = 2 → (∃ j12 : Nat, x1 = nI j12 ∧ j12 < 5 ∧ Q M6 (mI M6 (a + 13) j12)))))) ∧ (¬ (2 ≤ x2) → ((¬ (x2 = 0) → (∃ q16 : Mm → Int32 → Prop, Cn G m_X11_resistance d [.ref a, .int x1] X M q16 ∧ ∀ M18 r19, q16 M18 r19 → Q M18 r19)) ∧ (x2 = 0 → (∃ q21 : Mm → Int32 → Prop, Cn G m_X11_topOf d [.ref a, .int x1] X M q21 ∧ ∀ M23 r24, q21 M23 r24 → Q M23 r24)))))) ∧ (¬ (0 ≤ x2 ∧ x2 ≤ 3) → Q M (-1000000001)))))) : Wn G m_X11_ring (d + 1) 0 [(0, .ref a), (1, .int x1), (2, .int x2)] [] X M Q := by
  refine wp_iload_n 1 dX11_ring_0 rfl rfl ?_
  refine wp_i2l dX11_ring_1 ?_
  refine wp_lconst (v := 0) dX11_ring_2 rfl ?_
  refine wp_ldc2 dX11_ring_3 kc_RX11_185 ?_
  refine wp_csip dX11_ring_6 ck_RX11_78 rfl (as := [.long x1.toInt64, .long 0, .long 4]) rfl rfl (Nat.le_of_ble_eq_true rfl) (cp_X11_isIn G d X M x1 0 4 (by decide) (by decide)) ?_
  refine wp_ifB_eq (inferInstance) (tgt := 24) dX11_ring_9 (by decide) (fun c1 => ?_) (fun c1 => ?_)
  · replace h := h.1 c1
    refine wp_ldc dX11_ring_24 kc_RX11_100 ?_
    exact wn_iret dX11_ring_26 rfl h
  · replace h := h.2 c1
    refine wp_iload_n 2 dX11_ring_12 rfl rfl ?_
    refine wp_i2l dX11_ring_13 ?_
    refine wp_lconst (v := 0) dX11_ring_14 rfl ?_
    refine wp_ldc2 dX11_ring_15 kc_RX11_111 ?_
    refine wp_csip dX11_ring_18 ck_RX11_78 rfl (as := [.long x2.toInt64, .long 0, .long 3]) rfl rfl (Nat.le_of_ble_eq_true rfl) (cp_X11_isIn G d X M x2 0 3 (by decide) (by decide)) ?_
    refine wp_ifB_ne (inferInstance) (tgt := 27) dX11_ring_21 (by decide) (fun c2 => ?_) (fun c2 => ?_)
    · replace h := h.1 c2
      refine wp_iload_n 2 dX11_ring_27 rfl rfl ?_
      refine wp_iconst (v := 2) dX11_ring_28 rfl ?_
      refine wp_icmp_ge (tgt := 50) dX11_ring_29 (by decide) (fun c3 => ?_) (fun c3 => ?_)
      · replace h := h.1 c3
        refine wp_aload_n 0 dX11_ring_50 rfl rfl ?_
        obtain ⟨q4, o5, h⟩ := h
        refine wp_cvv dX11_ring_51 ck_RX11_187 (sh10_K hS) (as := []) rfl rfl (Nat.le_of_ble_eq_true rfl) o5 (fun M6 o7 => ?_)
        replace h := h M6 o7
        refine wp_iload_n 2 dX11_ring_54 rfl rfl ?_
        refine wp_iconst (v := 2) dX11_ring_55 rfl ?_
        refine wp_icmp_ne (tgt := 68) dX11_ring_56 (by decide) (fun c8 => ?_) (fun c8 => ?_)
        · replace h := h.1 c8
          refine wp_aload_n 0 dX11_ring_68 rfl rfl ?_
          refine wp_getR dX11_ring_69 fl_RX11_47 rfl (sh10_K hS) (sh10_F_parts hS) ?_
          refine wp_iload_n 1 dX11_ring_72 rfl rfl ?_
          obtain ⟨j9, o10, o11, h⟩ := h
          refine wp_iald (n := 5) dX11_ring_73 (sh10_K_parts hS) (sh10_N_parts hS) (by decide) o10 o11 ?_
          refine wp_iconst (v := 4) dX11_ring_74 rfl ?_
          refine wp_idiv dX11_ring_75 (by decide) ?_
          refine wp_iconst (v := 1) dX11_ring_76 rfl ?_
          refine wp_iadd dX11_ring_77 ?_
          exact wn_iret dX11_ring_78 rfl h
        · replace h := h.2 c8
          refine wp_aload_n 0 dX11_ring_59 rfl rfl ?_
          refine wp_getR dX11_ring_60 fl_RX11_47 rfl (sh10_K hS) (sh10_F_parts hS) ?_
          refine wp_iload_n 1 dX11_ring_63 rfl rfl ?_
          obtain ⟨j12, o13, o14, h⟩ := h
          refine wp_iald (n := 5) dX11_ring_64 (sh10_K_parts hS) (sh10_N_parts hS) (by decide) o13 o14 ?_
          refine wp_goto (tgt := 78) dX11_ring_65 (by decide) ?_
          exact wn_iret dX11_ring_78 rfl h
      · replace h := h.2 c3
        refine wp_iload_n 2 dX11_ring_32 rfl rfl ?_
        refine wp_if_ne (tgt := 44) dX11_ring_33 (by decide) (fun c15 => ?_) (fun c15 => ?_)
        · replace h := h.1 c15
          refine wp_aload_n 0 dX11_ring_44 rfl rfl ?_
          refine wp_iload_n 1 dX11_ring_45 rfl rfl ?_
          obtain ⟨q16, o17, h⟩ := h
          refine wp_cvi dX11_ring_46 ck_RX11_182 (sh10_K hS) (as := [.int x1]) rfl rfl (Nat.le_of_ble_eq_true rfl) o17 (fun M18 r19 o20 => ?_)
          replace h := h M18 r19 o20
          exact wn_iret dX11_ring_49 rfl h
        · replace h := h.2 c15
          refine wp_aload_n 0 dX11_ring_36 rfl rfl ?_
          refine wp_iload_n 1 dX11_ring_37 rfl rfl ?_
          obtain ⟨q21, o22, h⟩ := h
          refine wp_cvi dX11_ring_38 ck_RX11_143 (sh10_K hS) (as := [.int x1]) rfl rfl (Nat.le_of_ble_eq_true rfl) o22 (fun M23 r24 o25 => ?_)
          replace h := h M23 r24 o25
          refine wp_goto (tgt := 49) dX11_ring_41 (by decide) ?_
          exact wn_iret dX11_ring_49 rfl h
    · replace h := h.2 c2
      refine wp_ldc dX11_ring_24 kc_RX11_100 ?_
      exact wn_iret dX11_ring_26 rfl h
theorem case_ring (G : Gl) (d : Nat) (hd : 16 ≤ d) (X : Sh) (b m : Nat) (hS : Sh9 X b) (hM : Sh10 X m) (hbm : b + 266 ≤ m) (x1 x2 : Int32) : Case G d X b m m_X10_ring m_X11_ring [.int x1, .int x2] := by
  obtain ⟨d, rfl⟩ : ∃ d1, d = d1 + 1 := ⟨d - 1, by omega⟩
  intro M hs
  obtain ⟨⟨nb, nl, nx, nt, nd, la, hh⟩, hr⟩ := id hs
  obtain ⟨hW, hB, hF, hT, hD, hR⟩ := id hh
  obtain ⟨w0, w1, w2, w3, w4, w5, w6, w7, w8, w9, wb, wf, wl, wt, wd, sl, g, s1, s2, s3, s4, s5⟩ := id hW
  have hSh := sh9_S_house hS
  have hSf := sh2_S_furnace hSh
  obtain ⟨o1, o2, o3, o4, oT, oB, oR⟩ := hh.ok
  by_cases h : 0 ≤ x1 ∧ x1 ≤ 4
  · obtain ⟨r, hr5, rfl⟩ := ix_le (nb := 4) (by omega) h.1 h.2
    by_cases h2 : 0 ≤ x2 ∧ x2 ≤ 3
    · obtain ⟨k, hk, rfl⟩ := ix_le (nb := 3) (by omega) h2.1 h2.2
      obtain ⟨gn, hgn, eg⟩ := gas_nat (σ := mI M (m + 1)) (nl := nl) (nx := nx) s5 s3
      have gas : ∀ M17 r18, (r18 = s_gas (mI M (m + 1)) nl nx ∧ OffT (b + 1) M M17) → ∃ q20 : Mm → Prop, Cv G m_X1_partGas d [.ref (b + 1 + 8), .int r18] X M17 q20 ∧ ∀ M22, q20 M22 → (∀ r, r < 5 → mI M22 (b + 1 + 8 + 53) r = s_parts (s_gas (mI M (m + 1)) nl nx) (s_wts (mI M (m + 1)) nl) r) ∧ OffS (b + 1) M M22 := by
        rintro M17 r18 ⟨e18, o17⟩
        rw [eg] at e18
        subst e18
        have F17 : FR M17 (b + 1 + 8) (mI M (m + 1)) nl la := hF.mem w3 (fun c h4 h5 => o17.1 c (by omega) (by omega)) (by rw [o17.2])
        refine ⟨_, cp_X1_partGasF G d (by omega) X M17 (b + 1 + 8) nl gn (mI M (m + 1)) la hSf w3 F17 wf hgn, ?_⟩
        rintro M22 ⟨q1, q2, q3⟩
        rw [eg]
        refine ⟨q1, ⟨fun c hc => ?_, q3.trans o17.2⟩⟩
        unfold Scr at hc
        rw [q2 c (by omega) (by omega), o17.1 c (by omega) (by omega)]
      have ref : ∀ M22, OffS (b + 1) M M22 → Cv G m_X11_partGas d [.ref m] X M22 (fun M6 => (∀ r, r < 5 → mI M6 (m + 13) r = s_parts (s_gas (mI M (m + 1)) nl nx) (s_wts (mI M (m + 1)) nl) r) ∧ Sim M6 b m) := fun M22 o22 => by
        have s22 : mI M22 (m + 1) = mI M (m + 1) := o22.1 _ (by unfold Scr; omega)
        have hc := cp_X11_partGas G d (by omega) X M22 m nl nx hM (by rw [s22]; exact w2) w3 (by rw [s22]; exact w4) w5 (by rw [s22]; exact oT) (by rw [s22]; exact oB) (by rw [s22]; exact oR)
        rw [s22] at hc
        exact hc.mono (fun M6 h6 => ⟨h6.1, hs.scr hbm o22 h6.2⟩)
      match k, hk with
      | 0, _ =>
        refine Cn.of (by decide) (Nat.le_of_ble_eq_true rfl) (bX10_ring_0 hS ⟨fun _ => ⟨fun _ => ⟨_, cp_X1_topOf G d X M (b + 1 + 8) r hSf (by omega), ?_⟩, fun q => absurd q (by decide), fun q => absurd q (by decide), fun q => absurd q (by decide), fun q => absurd rfl q⟩, fun q => absurd h q⟩)
        rintro M5 r6 ⟨e, rfl⟩
        have e := e.symm
        subst e
        refine Cn.of (by decide) (Nat.le_of_ble_eq_true rfl) (bX11_ring_0 hM ⟨fun q => absurd h q, fun _ => ⟨fun _ => ⟨fun q => absurd q (by decide), fun _ => ⟨fun q => absurd rfl q, fun _ => ⟨_, cp_X11_topOf G d (by omega) X M m r nl hM (by omega) w2 w3, ?_⟩⟩⟩, fun q => absurd h2 q⟩⟩)
        rintro M23 r24 ⟨e, rfl⟩
        have e := e.symm
        subst e
        exact ⟨hF.top (by omega), hs⟩
      | 1, _ =>
        refine Cn.of (by decide) (Nat.le_of_ble_eq_true rfl) (bX10_ring_0 hS ⟨fun _ => ⟨fun q => absurd q (by decide), fun _ => ⟨_, cp_X1_resistanceOf G d X M (b + 1 + 8) r nl la hSf (by omega) hF.2.1.2.2.2.2.1 w3 (hF.1.lays hSf w3), ?_⟩, fun q => absurd q (by decide), fun q => absurd q (by decide), fun _ q => absurd rfl q⟩, fun q => absurd h q⟩)
        rintro M5 r6 ⟨e, rfl⟩
        have e := e.symm
        subst e
        refine Cn.of (by decide) (Nat.le_of_ble_eq_true rfl) (bX11_ring_0 hM ⟨fun q => absurd h q, fun _ => ⟨fun _ => ⟨fun q => absurd q (by decide), fun _ => ⟨fun _ => ⟨_, cp_X11_resistance G d (by omega) X M m r nl hM (by omega) w2 w3 (fun l hl => (oB l hl).1), ?_⟩, fun q => absurd q (by decide)⟩⟩, fun q => absurd h2 q⟩⟩)
        rintro M23 r24 ⟨e, rfl⟩
        have e := e.symm
        subst e
        exact ⟨hF.res (by omega), hs⟩
      | 2, _ =>
        refine Cn.of (by decide) (Nat.le_of_ble_eq_true rfl) (bX10_ring_0 hS ⟨fun _ => ⟨fun q => absurd q (by decide), fun q => absurd q (by decide), fun _ => ⟨_, cp_X2_gasFor G d (by omega) X M (b + 1) (b + 1 + 8) nl nx (mI M (m + 1)) la hSh hSf (by omega) w3 w5 hT hF (hR 1 (by omega)), ?_⟩, fun q => absurd q (by decide), fun _ _ q => absurd rfl q⟩, fun q => absurd h q⟩)
        intro M17 r18 h17
        obtain ⟨q20, c20, k20⟩ := gas M17 r18 h17
        refine ⟨q20, c20, fun M22 h22 => ⟨r, rfl, by omega, ?_⟩⟩
        obtain ⟨p22, o22⟩ := k20 M22 h22
        rw [p22 r (by omega)]
        refine Cn.of (by decide) (Nat.le_of_ble_eq_true rfl) (bX11_ring_0 hM ⟨fun q => absurd h q, fun _ => ⟨fun _ => ⟨fun _ => ⟨_, ref M22 o22, ?_⟩, fun q => absurd (by decide) q⟩, fun q => absurd h2 q⟩⟩)
        rintro M6 ⟨p6, s6⟩
        exact ⟨fun q => absurd rfl q, fun _ => ⟨r, rfl, by omega, (p6 r (by omega)).symm, s6⟩⟩
      | 3, _ =>
        refine Cn.of (by decide) (Nat.le_of_ble_eq_true rfl) (bX10_ring_0 hS ⟨fun _ => ⟨fun q => absurd q (by decide), fun q => absurd q (by decide), fun q => absurd q (by decide), fun _ => ⟨_, cp_X2_gasFor G d (by omega) X M (b + 1) (b + 1 + 8) nl nx (mI M (m + 1)) la hSh hSf (by omega) w3 w5 hT hF (hR 1 (by omega)), ?_⟩, fun _ _ _ q => absurd rfl q⟩, fun q => absurd h q⟩)
        intro M17 r18 h17
        obtain ⟨q20, c20, k20⟩ := gas M17 r18 h17
        refine ⟨q20, c20, fun M22 h22 => ⟨_, cp_X1_eatenOf G d X M22 (b + 1 + 8) r hSf (by omega), ?_⟩⟩
        obtain ⟨p22, o22⟩ := k20 M22 h22
        rintro M39 r40 ⟨e, rfl⟩
        have e := e.symm
        subst e
        rw [p22 r (by omega)]
        refine Cn.of (by decide) (Nat.le_of_ble_eq_true rfl) (bX11_ring_0 hM ⟨fun q => absurd h q, fun _ => ⟨fun _ => ⟨fun _ => ⟨_, ref M22 o22, ?_⟩, fun q => absurd (by decide) q⟩, fun q => absurd h2 q⟩⟩)
        rintro M6 ⟨p6, s6⟩
        exact ⟨fun _ => ⟨r, rfl, by omega, by rw [p6 r (by omega)], s6⟩, fun q => absurd q (by decide)⟩
    · have q : ∀ c : Nat, c ≤ 3 → ¬ x2 = nI c := fun c hc e => h2 (by
        rw [e]
        exact ⟨nI_pos' (by omega), (nI_leI (b := 3) (by omega) (by omega)).mpr hc⟩)
      exact Cn.of (by decide) (Nat.le_of_ble_eq_true rfl) (bX10_ring_0 hS ⟨fun _ => ⟨fun r => absurd r (q 0 (by omega)), fun r => absurd r (q 1 (by omega)), fun r => absurd r (q 2 (by omega)), fun r => absurd r (q 3 (by omega)), fun _ _ _ _ => Cn.of (by decide) (Nat.le_of_ble_eq_true rfl) (bX11_ring_0 hM ⟨fun q => absurd h q, fun _ => ⟨fun q => absurd q h2, fun _ => ⟨rfl, hs⟩⟩⟩)⟩, fun q => absurd h q⟩)
  · exact Cn.of (by decide) (Nat.le_of_ble_eq_true rfl) (bX10_ring_0 hS ⟨fun q => absurd q h, fun _ => Cn.of (by decide) (Nat.le_of_ble_eq_true rfl) (bX11_ring_0 hM ⟨fun _ => ⟨rfl, hs⟩, fun q => absurd q h⟩)⟩)
