/-! the call down: hours in the furnace that tries -/
/-- a furnace f on which the house at h lets hours pass, and the flat row of both -/
def HTf (M : Mm) (h f nl nx : Nat) (σ : Nat → Int32) (la : Nat → Nat) : Prop := PH σ nl nx ∧ TRep M (h + 62) σ nx ∧ FR M f σ nl la ∧ mI M (h + 85) 1 = σ 7 ∧ ∃ g, g ≤ 999 ∧ σ 7 = nI g
/-- what hours on the trying furnace leave as it was -/
def OffX (h f : Nat) (M M2 : Mm) : Prop := (∀ c, c < f ∨ f + 53 < c → c ≠ h + 80 → c ≠ h + 81 → mI M2 c = mI M c) ∧ ∀ c, c ≠ f + 1 → mR M2 c = mR M c
theorem OffX.trans {h f : Nat} {M M2 M3 : Mm} (h1 : OffX h f M M2) (h2 : OffX h f M2 M3) : OffX h f M M3 := ⟨fun c a1 a2 a3 => (h2.1 c a1 a2 a3).trans (h1.1 c a1 a2 a3), fun c a => (h2.2 c a).trans (h1.2 c a)⟩
theorem HTf.hour {M M1 M2 : Mm} {h f nl nx : Nat} {σ : Nat → Int32} {la : Nat → Nat} {fol : Int32} (hs : HTf M h f nl nx σ la) (hfar : f + 53 < h + 62 ∨ h + 85 < f) (ho : OffT h M M1) (hq : HrQ M1 f nl σ (s_parts (s_gas σ nl nx) (s_wts σ nl)) fol la M2) : ∃ to la2, to ≤ nl ∧ HTf M2 h f to nx (s_hour σ nl nx fol).1 la2 ∧ OffX h f M M2 ∧ (∀ l, l < to → WL (s_hour σ nl nx fol).1 l ∧ ¬ s_bulkOf (s_hour σ nl nx fol).1 l ≤ 0) ∧ ∀ l0, l0 < nl → fol = nI l0 → Fol M2 la2 to (s_hour σ nl nx fol).2 (la l0) := by
  obtain ⟨hP, hT, hF, h7, g, hg, eg⟩ := hs
  obtain ⟨wf, w2, w3, w4, w5, wt⟩ := id hP
  obtain ⟨to, la2, q1, q2, q3, q4, q5, q6, q7⟩ := hq
  obtain ⟨to', p1, p2⟩ := hP.pass (s_parts (s_gas σ nl nx) (s_wts σ nl)) fol
  have e : to' = to := (nI_inj (by omega) (by omega)).mp (p2.2.1.symm.trans q2)
  subst e
  have o : ∀ c, c < f ∨ f + 53 < c → c ≠ h + 80 → c ≠ h + 81 → mI M2 c = mI M c := fun c a1 a2 a3 => by rw [q6.1 c a1, ho.1 c a2 a3]
  refine ⟨to', la2, q1, ⟨p2, ?_, q3, ?_, g, hg, ?_⟩, ⟨o, fun c hc => by rw [q6.2 c hc, ho.2]⟩, fun l hl => ⟨q4 l hl, q5 l hl⟩, q7⟩
  · exact (hT.cong (fun k hk => pass_off w3 (by omega))).mem w5 (fun c h1 h2 => o c (by omega) (by omega) (by omega))
  · rw [o _ (by omega) (by omega) (by omega), h7]
    exact (pass_off w3 (by omega)).symm
  · exact (pass_off w3 (by omega)).trans eg
/-- the hour in which the followed layer is gone, within n hours, is v -/
def DN (nx : Nat) : Nat → (Nat → Int32) → Int32 → Int32 → Prop
  | 0, _, _, v => v = -1000000005
  | n + 1, σ, fol, v => ∃ nl t, HourOK σ nl nx ∧ t ≤ 2000 ∧ σ 5 = nI t ∧ (((s_hour σ nl nx fol).2 < 0 ∧ v = σ 5) ∨ (¬ (s_hour σ nl nx fol).2 < 0 ∧ DN nx n (s_hour σ nl nx fol).1 (s_hour σ nl nx fol).2 v))
theorem bX10_down_0 {G : Gl} {d : Nat} {X : Sh} {M : Mm} {Q : Mm → Int32 → Prop} {a : Nat} {x1 : Int32} (hS : Sh9 X a) (h : ((0 ≤ x1 ∧ x1 < mI M ((a + 1) + 8) 5 → (∃ q2 : Mm → Prop, Cv G m_X1_become d [.ref (a + 173), .ref ((a + 1) + 8)] X M q2 ∧ ∀ M4, q2 M4 → (∃ j6 : Nat, x1 = nI j6 ∧ j6 < 24 ∧ (∃ la9 : Nat, mR M4 ((a + 173) + 1) j6 = some la9 ∧ Sh4 X la9 ∧ Wn G m_X10_down (d + 1) 43 [(0, .ref a), (2, .ref la9), (3, .int 0)] [] X M4 Q)))) ∧ (¬ (0 ≤ x1 ∧ x1 < mI M ((a + 1) + 8) 5) → Q M (-1000000001)))) : Wn G m_X10_down (d + 1) 0 [(0, .ref a), (1, .int x1)] [] X M Q := by
  refine wp_aload_n 0 dX10_down_0 rfl rfl ?_
  refine wp_getR dX10_down_1 fl_RX10_10 rfl (sh9_K hS) (sh9_F_house hS) ?_
  refine wp_getR dX10_down_4 fl_RX10_117 rfl (sh2_K (sh9_S_house hS)) (sh2_F_furnace (sh9_S_house hS)) ?_
  refine wp_iload_n 1 dX10_down_7 rfl rfl ?_
  refine wp_cvip dX10_down_8 ck_RX10_131 (sh1_K (sh2_S_furnace (sh9_S_house hS))) (as := [.int x1]) rfl rfl (Nat.le_of_ble_eq_true rfl) (cp_X1_has G d X M ((a + 1) + 8) x1 (sh2_S_furnace (sh9_S_house hS))) ?_
  refine wp_ifB_ne (inferInstance) (tgt := 17) dX10_down_11 (by decide) (fun c1 => ?_) (fun c1 => ?_)
  · replace h := h.1 c1
    refine wp_aload_n 0 dX10_down_17 rfl rfl ?_
    refine wp_getR dX10_down_18 fl_RX10_26 rfl (sh9_K hS) (sh9_F_trial hS) ?_
    refine wp_aload_n 0 dX10_down_21 rfl rfl ?_
    refine wp_getR dX10_down_22 fl_RX10_10 rfl (sh9_K hS) (sh9_F_house hS) ?_
    refine wp_getR dX10_down_25 fl_RX10_117 rfl (sh2_K (sh9_S_house hS)) (sh2_F_furnace (sh9_S_house hS)) ?_
    obtain ⟨q2, o3, h⟩ := h
    refine wp_cvv dX10_down_28 ck_RX10_196 (sh1_K (sh9_S_trial hS)) (as := [.ref ((a + 1) + 8)]) rfl rfl (Nat.le_of_ble_eq_true rfl) o3 (fun M4 o5 => ?_)
    replace h := h M4 o5
    refine wp_aload_n 0 dX10_down_31 rfl rfl ?_
    refine wp_getR dX10_down_32 fl_RX10_26 rfl (sh9_K hS) (sh9_F_trial hS) ?_
    refine wp_getR dX10_down_35 fl_RX10_132 rfl (sh1_K (sh9_S_trial hS)) (sh1_F_layers (sh9_S_trial hS)) ?_
    refine wp_iload_n 1 dX10_down_38 rfl rfl ?_
    obtain ⟨j6, o7, o8, h⟩ := h
    obtain ⟨la9, o10, o11, h⟩ := h
    refine wp_rald (n := 24) dX10_down_39 (sh1_K_layers (sh9_S_trial hS)) (sh1_N_layers (sh9_S_trial hS)) (by decide) o7 o8 o10 ?_
    refine wp_astore_n (lo2 := [(2, .ref _), (0, .ref _), (1, .int _)]) dX10_down_40 rfl (by decide) rfl ?_
    refine wp_iconst (v := 0) dX10_down_41 rfl ?_
    refine wp_istore_n (lo2 := [(3, .int _), (2, .ref _), (0, .ref _), (1, .int _)]) dX10_down_42 rfl (by decide) rfl ?_
    exact Wp.sub [2, 1, 0] rfl h
  · replace h := h.2 c1
    refine wp_ldc dX10_down_14 kc_RX10_67 ?_
    exact wn_iret dX10_down_16 rfl h
theorem bX10_down_43 {G : Gl} {d : Nat} {X : Sh} {M : Mm} {Q : Mm → Int32 → Prop} {a : Nat} {b2 : Nat} {x3 : Int32} (hS : Sh9 X a) (hS2 : Sh4 X b2) (h : ((60 ≤ x3 → Q M (-1000000005)) ∧ (¬ (60 ≤ x3) → (∀ v2 : Int32, v2 = (mI M (a + 173) 0) → (∃ q3 : Mm → Prop, Cv G m_X2_passHour d [.ref (a + 1), .ref (a + 173)] X M q3 ∧ ∀ M5, q3 M5 → ((¬ ((mI M5 b2 8) = 0) → Wn G m_X10_down (d + 1) 43 [(0, .ref a), (2, .ref b2), (3, .int (x3 + 1))] [] X M5 Q) ∧ ((mI M5 b2 8) = 0 → Q M5 v2))))))) : Wn G m_X10_down (d + 1) 43 [(0, .ref a), (2, .ref b2), (3, .int x3)] [] X M Q := by
  refine wp_iload_n 2 dX10_down_43 rfl rfl ?_
  refine wp_bipush (v := 60) dX10_down_44 rfl ?_
  refine wp_icmp_ge (tgt := 85) dX10_down_46 (by decide) (fun c1 => ?_) (fun c1 => ?_)
  · replace h := h.1 c1
    refine wp_ldc dX10_down_85 kc_RX10_199 ?_
    exact wn_iret dX10_down_87 rfl h
  · replace h := h.2 c1
    refine wp_aload_n 0 dX10_down_49 rfl rfl ?_
    refine wp_getR dX10_down_50 fl_RX10_26 rfl (sh9_K hS) (sh9_F_trial hS) ?_
    refine wp_getI dX10_down_53 fl_RX10_172 rfl (sh1_K (sh9_S_trial hS)) ?_
    refine wp_topi (fun v2 ev2 => ?_)
    replace h := h v2 ev2
    refine wp_istore (lo2 := [(4, .int _), (0, .ref _), (2, .ref _), (3, .int _)]) dX10_down_56 (by decide) rfl ?_
    refine wp_aload_n 1 dX10_down_58 rfl rfl ?_
    refine wp_getR dX10_down_59 fl_RX10_10 rfl (sh9_K hS) (sh9_F_house hS) ?_
    refine wp_aload_n 1 dX10_down_62 rfl rfl ?_
    refine wp_getR dX10_down_63 fl_RX10_26 rfl (sh9_K hS) (sh9_F_trial hS) ?_
    obtain ⟨q3, o4, h⟩ := h
    refine wp_cvv dX10_down_66 ck_RX10_173 (sh2_K (sh9_S_house hS)) (as := [.ref (a + 173)]) rfl rfl (Nat.le_of_ble_eq_true rfl) o4 (fun M5 o6 => ?_)
    replace h := h M5 o6
    refine wp_aload_n 2 dX10_down_69 rfl rfl ?_
    refine wp_getI dX10_down_70 fl_RX10_146 rfl (sh4_K hS2) ?_
    refine wp_if_ne (tgt := 79) dX10_down_73 (by decide) (fun c7 => ?_) (fun c7 => ?_)
    · replace h := h.1 c7
      refine wp_iinc (v := x3 + 1) (lo2 := [(3, .int _), (4, .int _), (0, .ref _), (2, .ref _)]) dX10_down_79 (q := 3) rfl rfl (by decide) rfl ?_
      refine wp_goto (tgt := 43) dX10_down_82 (by decide) ?_
      exact Wp.sub [2, 3, 0] rfl h
    · replace h := h.2 c7
      refine wp_iload 0 dX10_down_76 rfl ?_
      exact wn_iret dX10_down_78 rfl h
theorem bX11_down_0 {G : Gl} {d : Nat} {X : Sh} {M : Mm} {Q : Mm → Int32 → Prop} {a : Nat} {x1 : Int32} (hS : Sh10 X a) (h : ((0 ≤ x1 ∧ x1 ≤ ((mI M (a + 1) 1) - 1) → (∃ q2 : Mm → Prop, Cv G m_X11_setAside d [.ref a, .ref (a + 1), .ref (a + 3)] X M q2 ∧ ∀ M4, q2 M4 → (∀ M6 : Mm, M6 = sI M4 a 17 x1 → Wn G m_X11_down (d + 1) 42 [(0, .ref a), (2, .int (-1)), (3, .int 0)] [] X M6 Q))) ∧ (¬ (0 ≤ x1 ∧ x1 ≤ ((mI M (a + 1) 1) - 1)) → Q M (-1000000001)))) : Wn G m_X11_down (d + 1) 0 [(0, .ref a), (1, .int x1)] [] X M Q := by
  refine wp_iload_n 1 dX11_down_0 rfl rfl ?_
  refine wp_i2l dX11_down_1 ?_
  refine wp_lconst (v := 0) dX11_down_2 rfl ?_
  refine wp_aload_n 0 dX11_down_3 rfl rfl ?_
  refine wp_getR dX11_down_4 fl_RX11_7 rfl (sh10_K hS) (sh10_F_s hS) ?_
  refine wp_iconst (v := 1) dX11_down_7 rfl ?_
  refine wp_iald (n := 2950) dX11_down_8 (sh10_K_s hS) (sh10_N_s hS) (by decide) rfl (by decide) ?_
  refine wp_iconst (v := 1) dX11_down_9 rfl ?_
  refine wp_isub dX11_down_10 ?_
  refine wp_i2l dX11_down_11 ?_
  refine wp_csip dX11_down_12 ck_RX11_78 rfl (as := [.long x1.toInt64, .long 0, .long (((mI M (a + 1) 1) - 1).toInt64)]) rfl rfl (Nat.le_of_ble_eq_true rfl) (cp_X11_isIn G d X M x1 0 ((mI M (a + 1) 1) - 1) (by decide) rfl) ?_
  refine wp_ifB_ne (inferInstance) (tgt := 21) dX11_down_15 (by decide) (fun c1 => ?_) (fun c1 => ?_)
  · replace h := h.1 c1
    refine wp_aload_n 0 dX11_down_21 rfl rfl ?_
    refine wp_aload_n 0 dX11_down_22 rfl rfl ?_
    refine wp_getR dX11_down_23 fl_RX11_7 rfl (sh10_K hS) (sh10_F_s hS) ?_
    refine wp_aload_n 0 dX11_down_26 rfl rfl ?_
    refine wp_getR dX11_down_27 fl_RX11_16 rfl (sh10_K hS) (sh10_F_aside hS) ?_
    obtain ⟨q2, o3, h⟩ := h
    refine wp_cvv dX11_down_30 ck_RX11_212 (sh10_K hS) (as := [.ref (a + 1), .ref (a + 3)]) rfl rfl (Nat.le_of_ble_eq_true rfl) o3 (fun M4 o5 => ?_)
    replace h := h M4 o5
    refine wp_aload_n 0 dX11_down_33 rfl rfl ?_
    refine wp_iload_n 1 dX11_down_34 rfl rfl ?_
    refine wp_putI dX11_down_35 fp_RX11_197 rfl (sh10_K hS) ?_
    refine wp_nm (fun M6 eM6 => ?_)
    replace h := h M6 eM6
    refine wp_iconst (v := (-1)) dX11_down_38 rfl ?_
    refine wp_istore_n (lo2 := [(2, .int _), (0, .ref _), (1, .int _)]) dX11_down_39 rfl (by decide) rfl ?_
    refine wp_iconst (v := 0) dX11_down_40 rfl ?_
    refine wp_istore_n (lo2 := [(3, .int _), (2, .int _), (0, .ref _), (1, .int _)]) dX11_down_41 rfl (by decide) rfl ?_
    exact Wp.sub [2, 1, 0] rfl h
  · replace h := h.2 c1
    refine wp_ldc dX11_down_18 kc_RX11_100 ?_
    exact wn_iret dX11_down_20 rfl h
theorem bX11_down_42 {G : Gl} {d : Nat} {X : Sh} {M : Mm} {Q : Mm → Int32 → Prop} {a : Nat} {x2 : Int32} {x3 : Int32} (hS : Sh10 X a) (h : ((60 ≤ x3 → (∃ q2 : Mm → Prop, Cv G m_X11_setAside d [.ref a, .ref (a + 3), .ref (a + 1)] X M q2 ∧ ∀ M4, q2 M4 → Q M4 (f_orNone x2))) ∧ (¬ (60 ≤ x3) → ((0 ≤ x2 → (∃ q7 : Mm → Prop, Cv G m_X11_setAside d [.ref a, .ref (a + 3), .ref (a + 1)] X M q7 ∧ ∀ M9, q7 M9 → Q M9 (f_orNone x2))) ∧ (¬ (0 ≤ x2) → (∀ v11 : Int32, v11 = (mI M (a + 1) 5) → (∃ q12 : Mm → Prop, Cv G m_X11_oneHour d [.ref a] X M q12 ∧ ∀ M14, q12 M14 → (∀ v18 : Int32, v18 = (if 0 ≤ (mI M14 a 17) then (-1) else v11) → Wn G m_X11_down (d + 1) 42 [(0, .ref a), (2, .int v18), (3, .int (x3 + 1))] [] X M14 Q)))))))) : Wn G m_X11_down (d + 1) 42 [(0, .ref a), (2, .int x2), (3, .int x3)] [] X M Q := by
  refine wp_iload_n 2 dX11_down_42 rfl rfl ?_
  refine wp_bipush (v := 60) dX11_down_43 rfl ?_
  refine wp_icmp_ge (tgt := 84) dX11_down_45 (by decide) (fun c1 => ?_) (fun c1 => ?_)
  · replace h := h.1 c1
    refine wp_aload_n 0 dX11_down_84 rfl rfl ?_
    refine wp_aload_n 0 dX11_down_85 rfl rfl ?_
    refine wp_getR dX11_down_86 fl_RX11_16 rfl (sh10_K hS) (sh10_F_aside hS) ?_
    refine wp_aload_n 0 dX11_down_89 rfl rfl ?_
    refine wp_getR dX11_down_90 fl_RX11_7 rfl (sh10_K hS) (sh10_F_s hS) ?_
    obtain ⟨q2, o3, h⟩ := h
    refine wp_cvv dX11_down_93 ck_RX11_212 (sh10_K hS) (as := [.ref (a + 3), .ref (a + 1)]) rfl rfl (Nat.le_of_ble_eq_true rfl) o3 (fun M4 o5 => ?_)
    replace h := h M4 o5
    refine wp_iload_n 1 dX11_down_96 rfl rfl ?_
    refine wp_csip dX11_down_97 ck_RX11_216 rfl (as := [.int x2]) rfl rfl (Nat.le_of_ble_eq_true rfl) (cp_X11_orNone G d X M4 x2) ?_
    exact wn_iret dX11_down_100 rfl h
  · replace h := h.2 c1
    refine wp_iload_n 1 dX11_down_48 rfl rfl ?_
    refine wp_if_ge (tgt := 84) dX11_down_49 (by decide) (fun c6 => ?_) (fun c6 => ?_)
    · replace h := h.1 c6
      refine wp_aload_n 0 dX11_down_84 rfl rfl ?_
      refine wp_aload_n 0 dX11_down_85 rfl rfl ?_
      refine wp_getR dX11_down_86 fl_RX11_16 rfl (sh10_K hS) (sh10_F_aside hS) ?_
      refine wp_aload_n 0 dX11_down_89 rfl rfl ?_
      refine wp_getR dX11_down_90 fl_RX11_7 rfl (sh10_K hS) (sh10_F_s hS) ?_
      obtain ⟨q7, o8, h⟩ := h
      refine wp_cvv dX11_down_93 ck_RX11_212 (sh10_K hS) (as := [.ref (a + 3), .ref (a + 1)]) rfl rfl (Nat.le_of_ble_eq_true rfl) o8 (fun M9 o10 => ?_)
      replace h := h M9 o10
      refine wp_iload_n 1 dX11_down_96 rfl rfl ?_
      refine wp_csip dX11_down_97 ck_RX11_216 rfl (as := [.int x2]) rfl rfl (Nat.le_of_ble_eq_true rfl) (cp_X11_orNone G d X M9 x2) ?_
      exact wn_iret dX11_down_100 rfl h
    · replace h := h.2 c6
      refine wp_aload_n 0 dX11_down_52 rfl rfl ?_
      refine wp_getR dX11_down_53 fl_RX11_7 rfl (sh10_K hS) (sh10_F_s hS) ?_
      refine wp_iconst (v := 5) dX11_down_56 rfl ?_
      refine wp_iald (n := 2950) dX11_down_57 (sh10_K_s hS) (sh10_N_s hS) (by decide) rfl (by decide) ?_
      refine wp_topi (fun v11 ev11 => ?_)
      replace h := h v11 ev11
      refine wp_istore (lo2 := [(4, .int _), (0, .ref _), (2, .int _), (3, .int _)]) dX11_down_58 (by decide) rfl ?_
      refine wp_aload_n 1 dX11_down_60 rfl rfl ?_
      obtain ⟨q12, o13, h⟩ := h
      refine wp_cvv dX11_down_61 ck_RX11_203 (sh10_K hS) (as := []) rfl rfl (Nat.le_of_ble_eq_true rfl) o13 (fun M14 o15 => ?_)
      replace h := h M14 o15
      refine wp_aload_n 1 dX11_down_64 rfl rfl ?_
      refine wp_getI dX11_down_65 fl_RX11_197 rfl (sh10_K hS) ?_
      have K17 : Wp G m_X11_down (d + 1) 0 0 0 0 77 [(4, .int v11), (0, .ref a), (2, .int x2), (3, .int x3)] [.int ((if 0 ≤ (mI M14 a 17) then (-1) else v11))] X M14 (fun X2 M2 v => X2 = X ∧ ∃ x, v = some (.int x) ∧ Q M2 x) := by
        refine wp_topi (fun v18 ev18 => ?_)
        replace h := h v18 ev18
        refine wp_istore_n (lo2 := [(2, .int _), (4, .int _), (0, .ref _), (3, .int _)]) dX11_down_77 rfl (by decide) rfl ?_
        refine wp_iinc (v := x3 + 1) (lo2 := [(3, .int _), (2, .int _), (4, .int _), (0, .ref _)]) dX11_down_78 (q := 3) rfl rfl (by decide) rfl ?_
        refine wp_goto (tgt := 42) dX11_down_81 (by decide) ?_
        exact Wp.sub [3, 1, 0] rfl h
      refine wp_if_ge (tgt := 76) dX11_down_68 (by decide) (fun c16 => ?_) (fun c16 => ?_)
      · refine wp_iconst (v := (-1)) dX11_down_76 rfl ?_
        rw [if_pos c16] at K17
        exact K17
      · refine wp_iload 0 dX11_down_71 rfl ?_
        refine wp_goto (tgt := 77) dX11_down_73 (by decide) ?_
        rw [if_neg c16] at K17
        exact K17
theorem cl_X10_down (G : Gl) (d : Nat) (hd : 5 ≤ d) {X : Sh} {b A nx : Nat} {Q : Mm → Int32 → Prop} (hS : Sh9 X b) (hA : Sh4 X A) (M0 : Mm) :
    ∀ (n i nl l0 t : Nat) (σ : Nat → Int32) (la : Nat → Nat) (M : Mm), i + n = 60 → HTf M (b + 1) (b + 173) nl nx σ la → l0 < nl → la l0 = A → t + n ≤ 2000 → σ 5 = nI t → OffX (b + 1) (b + 173) M0 M → (∀ M2 v, OffX (b + 1) (b + 173) M0 M2 → (∃ la, LPm M2 (b + 173) la) → DN nx n σ (nI l0) v → Q M2 v) → Wn G m_X10_down (d + 1) 43 [(0, .ref b), (2, .ref A), (3, .int (nI i))] [] X M Q
  | 0, i, nl, l0, t, σ, la, M, h, hs, hl0, hlA, ht, e5, hO, hq => by
    have hi : i = 60 := h
    subst hi
    exact bX10_down_43 hS hA ⟨fun _ => hq M _ hO ⟨la, hs.2.2.1.1⟩ rfl, fun q => absurd (by decide) q⟩
  | n + 1, i, nl, l0, t, σ, la, M, h, hs, hl0, hlA, ht, e5, hO, hq => by
    obtain ⟨hP, hT, hF, h7, g, hg, eg⟩ := id hs
    obtain ⟨wf, w2, w3, w4, w5, wt⟩ := id hP
    refine bX10_down_43 hS hA ⟨fun q => ?_, fun _ => ?_⟩
    · have := (nI_leI (a := 60) (by omega) (by omega)).mp q
      omega
    intro v2 e2
    refine ⟨_, cp_X2_passHour G d hd X M (b + 1) (b + 173) nl nx g σ la (nI l0) (sh9_S_house hS) (sh9_S_trial hS) (by omega) w3 w5 hT hF wf h7 eg hg, ?_⟩
    rintro M5 ⟨M1, o1, h5⟩
    obtain ⟨to, la2, r1, r2, r3, r4, r5⟩ := hs.hour (by omega) o1 h5
    have hf := r5 l0 hl0 rfl
    rw [hlA] at hf
    have ev : v2 = σ 5 := e2.trans hF.2.1.1
    rcases hf with ⟨j, hj, ej, ea⟩ | ⟨ej, ea⟩
    · have ne : ¬ mI M5 A 8 = 0 := fun q => by
        obtain ⟨wj, bj⟩ := r4 j hj
        have := wj.left (r2.2.2.1.2.2 j hj)
        rw [ea, q] at this
        exact bj (by rw [← this]; decide)
      refine ⟨fun _ => ?_, fun q => absurd q ne⟩
      rw [nI_1]
      have e6 : (s_hour σ nl nx (nI l0)).1 5 = nI (t + 1) := by
        have := pass_5 (σ := σ) (nl := nl) (p := s_parts (s_gas σ nl nx) (s_wts σ nl)) (fol := nI l0) w3
        rw [e5, nI_1] at this
        exact this
      refine cl_X10_down G d hd hS hA M0 n (i + 1) to j (t + 1) _ la2 M5 (by omega) r2 hj ea (by omega) e6 (hO.trans r3) (fun M2 v h8 hp h9 => hq M2 v h8 hp ⟨nl, t, hP.ok, by omega, e5, Or.inr ⟨?_, ?_⟩⟩)
      · rw [ej]
        exact nI_pos (by omega)
      · rw [ej]
        exact h9
    · refine ⟨fun q => absurd ea q, fun _ => ?_⟩
      rw [ev]
      refine hq M5 _ (hO.trans r3) ⟨la2, r2.2.2.1.1⟩ ⟨nl, t, hP.ok, by omega, e5, Or.inl ⟨?_, rfl⟩⟩
      rw [ej]
      decide
theorem cl_X11_down (G : Gl) (d : Nat) (hd : 6 ≤ d) {X : Sh} {m nx : Nat} {v : Int32} {Q : Mm → Int32 → Prop} (hM : Sh10 X m) (M0 : Mm) (hq : ∀ M2, OffM m M0 M2 → (∀ k, k < 2950 → mI M2 (m + 1) k = mI M0 (m + 3) k) → Q M2 v) :
    ∀ (n i : Nat) (σ : Nat → Int32) (fol : Int32) (M : Mm), i + n = 60 → DN nx n σ fol v → mI M (m + 1) = σ → mI M m 17 = fol → OffM m M0 M → Wn G m_X11_down (d + 1) 42 [(0, .ref m), (2, .int (-1)), (3, .int (nI i))] [] X M Q
  | 0, i, σ, fol, M, h, hD, h1, h2, hO => by
    have hi : i = 60 := h
    subst hi
    have hv : v = -1000000005 := hD
    refine bX11_down_42 hM ⟨fun _ => ⟨_, cp_X11_setAside G d X M m (m + 3) (m + 1) hM (sh10_K_aside hM) (sh10_N_aside hM) (sh10_K_s hM) (sh10_N_s hM) (by omega), ?_⟩, fun q => absurd (by decide) q⟩
    rintro M4 ⟨a4, p4, q4⟩
    have e : f_orNone (-1) = v := hv.symm
    rw [e]
    exact hq M4 ⟨fun c g1 g2 g3 g4 g5 => by rw [p4 c g2, hO.1 c g1 g2 g3 g4 g5], fun k hk => by rw [p4 m (by omega), hO.2.1 k hk], q4.trans hO.2.2⟩ (fun k hk => by rw [a4 k hk, hO.1 _ (by omega) (by omega) (by omega) (by omega) (by omega)])
  | n + 1, i, σ, fol, M, h, hD, h1, h2, hO => by
    obtain ⟨nl, t, hok, ht, e5, hc⟩ := hD
    have ok2 := hok
    rw [← h1] at ok2
    refine bX11_down_42 hM ⟨fun q => ?_, fun _ => ⟨fun q => absurd q (by decide), fun _ => ?_⟩⟩
    · have := (nI_leI (a := 60) (by omega) (by omega)).mp q
      omega
    intro v11 e11
    rw [h1, e5] at e11
    refine ⟨_, cp_X11_oneHour G d hd X M m nl nx hM ok2, ?_⟩
    rintro M14 ⟨g1, g2, g3, g4⟩
    have O14 : OffM m M0 M14 := ⟨fun c c1 c2 c3 c4 c5 => by rw [g3 c c1 c2 c3 c4 c5]; exact hO.1 c c1 c2 c3 c4 c5, fun k hk => by rw [g2, upd_ne hk]; exact hO.2.1 k hk, g4.trans hO.2.2⟩
    have g17 : mI M14 m 17 = (s_hour σ nl nx fol).2 := by
      rw [g2, upd_eq, h1, h2]
    have g1' : mI M14 (m + 1) = (s_hour σ nl nx fol).1 := by
      rw [g1, h1, h2]
    intro v18 e18
    rw [g17] at e18
    rw [nI_1]
    rcases hc with ⟨c1, c2⟩ | ⟨c1, c2⟩
    · rw [if_neg (i_nle.mpr c1), e11] at e18
      subst e18
      have tp : 0 ≤ nI t := i_nlt.mp (nI_pos (by omega))
      have fin : ∃ q2 : Mm → Prop, Cv G m_X11_setAside d [.ref m, .ref (m + 3), .ref (m + 1)] X M14 q2 ∧ ∀ M4, q2 M4 → Q M4 (f_orNone (nI t)) := by
        refine ⟨_, cp_X11_setAside G d X M14 m (m + 3) (m + 1) hM (sh10_K_aside hM) (sh10_N_aside hM) (sh10_K_s hM) (sh10_N_s hM) (by omega), ?_⟩
        rintro M4 ⟨a4, p4, q4⟩
        have e : f_orNone (nI t) = v := by
          rw [c2, e5]
          exact if_neg (nI_pos (by omega))
        rw [e]
        exact hq M4 ⟨fun c f1 f2 f3 f4 f5 => by rw [p4 c f2, O14.1 c f1 f2 f3 f4 f5], fun k hk => by rw [p4 m (by omega), O14.2.1 k hk], q4.trans O14.2.2⟩ (fun k hk => by rw [a4 k hk, O14.1 _ (by omega) (by omega) (by omega) (by omega) (by omega)])
      exact bX11_down_42 hM ⟨fun _ => fin, fun _ => ⟨fun _ => fin, fun q => absurd tp q⟩⟩
    · rw [if_pos (i_nlt.mp c1)] at e18
      subst e18
      exact cl_X11_down G d hd hM M0 hq n (i + 1) _ _ M14 (by omega) c2 g1' g17 O14
theorem case_down (G : Gl) (d : Nat) (hd : 16 ≤ d) (X : Sh) (b m : Nat) (hS : Sh9 X b) (hM : Sh10 X m) (hbm : b + 266 ≤ m) (x1 : Int32) : Case G d X b m m_X10_down m_X11_down [.int x1] := by
  obtain ⟨d, rfl⟩ : ∃ d1, d = d1 + 1 := ⟨d - 1, by omega⟩
  intro M hs
  obtain ⟨⟨nb, nl, nx, nt, nd, la, hh⟩, hr⟩ := id hs
  obtain ⟨hW, hB, hF, hT, hD, hR⟩ := id hh
  obtain ⟨w0, w1, w2, w3, w4, w5, w6, w7, w8, w9, wb, wf, wl, wt, wd, sl, g, s1, ⟨s2, t, ht, e5⟩, s3, s4, s5⟩ := id hW
  obtain ⟨la3, hP3⟩ := hr.2.1.2
  by_cases h : 0 ≤ x1 ∧ x1 < nI nl
  · have h' : 0 ≤ x1 ∧ x1 < mI M (b + 1 + 8) 5 := by rw [hF.2.1.2.2.2.2.1]; exact h
    have h'' : 0 ≤ x1 ∧ x1 ≤ mI M (m + 1) 1 - 1 := by rw [w2, has_iff (by omega)]; exact h
    obtain ⟨i, hi, rfl⟩ := ix_of (by omega) h.1 h.2
    refine Cn.of (by decide) (Nat.le_of_ble_eq_true rfl) (bX10_down_0 hS ⟨fun _ => ⟨_, cp_X1_become G d (by omega) X M (b + 173) (b + 1 + 8) nl (mI M (m + 1)) la3 la (sh9_S_trial hS) (sh2_S_furnace (sh9_S_house hS)) (by omega) w3 hF hP3, ?_⟩, fun q => absurd h' q⟩)
    rintro M4 ⟨f4, o4, r4⟩
    refine ⟨i, rfl, by omega, la3 i, f4.1.1 i (by omega), f4.1.sh (sh9_S_trial hS) (by omega), ?_⟩
    have hs4 : HTf M4 (b + 1) (b + 173) nl nx (mI M (m + 1)) la3 := ⟨hh.ph, hT.mem w5 (fun c h4 h5 => o4 c (by omega)), f4, by rw [o4 _ (by omega)]; exact hR 1 (by omega), g, s3, s5⟩
    refine cl_X10_down G d (by omega) hS (f4.1.sh (sh9_S_trial hS) (by omega)) M (nx := nx) 60 0 nl i t (mI M (m + 1)) la3 M4 (by omega) hs4 hi rfl (by omega) e5 ⟨fun c c1 c2 c3 => o4 c (by omega), fun c _ => by rw [r4]⟩ (fun M2 v o2 hp2 hv => ?_)
    have m2 : ∀ c, m ≤ c → mI M2 c = mI M c := fun c hc => o2.1 c (by omega) (by omega) (by omega)
    refine Cn.of (by decide) (Nat.le_of_ble_eq_true rfl) (bX11_down_0 hM ⟨fun _ => ⟨_, cp_X11_setAside G d X M2 m (m + 1) (m + 3) hM (sh10_K_s hM) (sh10_N_s hM) (sh10_K_aside hM) (sh10_N_aside hM) (by omega), ?_⟩, fun q => absurd (by rw [m2 _ (by omega)]; exact h'') q⟩)
    rintro N4 ⟨a4, p4, q4⟩
    intro N6 e6
    have o6 : ∀ c, c ≠ m → mI N6 c = mI N4 c := fun c hc => by rw [e6, mI_sI, up2_off _ _ _ hc]
    have q6 : mR N6 = mR N4 := by rw [e6]; rfl
    refine cl_X11_down G d (by omega) hM N6 (nx := nx) (v := v) (fun M3 h3 h7 => ?_) 60 0 (mI M (m + 1)) (nI i) N6 (by omega) hv (by rw [o6 _ (by omega), p4 _ (by omega), m2 _ (by omega)]) (by rw [e6, mI_sI, up2_same]) ⟨fun _ _ _ _ _ _ => rfl, fun _ _ => rfl, rfl⟩
    obtain ⟨h4, h5, h6⟩ := h3
    have k7 : ∀ k, k < 2950 → mI M3 (m + 1) k = mI M (m + 1) k := fun k hk => by rw [h7 k hk, o6 _ (by omega), a4 k hk, m2 _ (by omega)]
    have k5 : ∀ k, k ≠ 17 → mI M3 m k = mI M m k := fun k hk => by rw [h5 k hk, e6, mI_sI, up2_k _ _ _ hk, p4 _ (by omega), m2 _ (by omega)]
    have oo : ∀ c, c < m → c < b + 173 ∨ b + 226 < c → c ≠ b + 81 → c ≠ b + 82 → mI M3 c = mI M c := fun c c1 c2 c3 c4 => by rw [h4 c (by omega) (by omega) (by omega) (by omega) (by omega), o6 c (by omega), p4 c (by omega), o2.1 c (by omega) (by omega) (by omega)]
    have om : ∀ c, m + 1 < c → c ≠ m + 3 → c ≠ m + 13 → c ≠ m + 18 → c ≠ m + 19 → mI M3 c = mI M c := fun c c1 c2 c3 c4 c5 => by rw [h4 c (by omega) (by omega) (by omega) (by omega) (by omega), o6 c (by omega), p4 c (by omega), m2 c (by omega)]
    have rr : ∀ c, c ≠ b + 174 → mR M3 c = mR M c := fun c hc => by rw [h6, q6, q4, o2.2 c hc]
    refine ⟨rfl, HS.eqv (σ := mI M (m + 1)) (hs.1.mem (fun c c1 c2 c3 => oo c (by omega) (by omega) (by unfold Scr at c3; omega) (by unfold Scr at c3; omega)) (rr _ (by omega))) k7, hr.mem (fun c hc => ?_) (by rw [oo b (by omega) (by omega) (by omega) (by omega)]) (by rw [oo b (by omega) (by omega) (by omega) (by omega)]) (by rw [oo (b + 227) (by omega) (by omega) (by omega) (by omega)]) (k5 _ (by omega)) (k5 _ (by omega)) (k5 _ (by omega)) (rr _ (by omega)) ?_⟩
    · unfold RestK at hc
      by_cases q : c < m
      · exact oo c q (by omega) (by omega) (by omega)
      · exact om c (by omega) (by omega) (by omega) (by omega) (by omega)
    · obtain ⟨la5, p5⟩ := hp2
      exact ⟨la5, p5.mR (by rw [h6, q6, q4])⟩
  · have h' : ¬ (0 ≤ x1 ∧ x1 < mI M (b + 1 + 8) 5) := by rw [hF.2.1.2.2.2.2.1]; exact h
    have h'' : ¬ (0 ≤ x1 ∧ x1 ≤ mI M (m + 1) 1 - 1) := by rw [w2, has_iff (by omega)]; exact h
    exact Cn.of (by decide) (Nat.le_of_ble_eq_true rfl) (bX10_down_0 hS ⟨fun q => absurd q h', fun _ => Cn.of (by decide) (Nat.le_of_ble_eq_true rfl) (bX11_down_0 hM ⟨fun q => absurd q h'', fun _ => ⟨rfl, hs⟩⟩)⟩)
