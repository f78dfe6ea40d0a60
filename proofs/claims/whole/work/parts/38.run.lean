/-! calls: run, ring -/
theorem bX10_run_0 {G : Gl} {d : Nat} {X : Sh} {M : Mm} {Q : Mm → Int32 → Prop} {a : Nat} {x1 : Int32} (hS : Sh9 X a) (h : ((1 ≤ x1 ∧ x1 ≤ 60 → ((((mI M ((a + 1) + 8) 0) + x1) ≤ 999 → Wn G m_X10_run (d + 1) 36 [(0, .ref a), (1, .int x1), (2, .int 0)] [] X M Q) ∧ (¬ (((mI M ((a + 1) + 8) 0) + x1) ≤ 999) → Q M (-1000000003)))) ∧ (¬ (1 ≤ x1 ∧ x1 ≤ 60) → Q M (-1000000001)))) : Wn G m_X10_run (d + 1) 0 [(0, .ref a), (1, .int x1)] [] X M Q := by
  refine wp_iload_n 1 dX10_run_0 rfl rfl ?_
  refine wp_iconst (v := 1) dX10_run_1 rfl ?_
  refine wp_bipush (v := 60) dX10_run_2 rfl ?_
  refine wp_csip dX10_run_4 ck_RX10_63 rfl (as := [.int x1, .int 1, .int 60]) rfl rfl (Nat.le_of_ble_eq_true rfl) (cp_X10_isWithin G d X M x1 1 60) ?_
  refine wp_ifB_ne (inferInstance) (tgt := 13) dX10_run_7 (by decide) (fun c1 => ?_) (fun c1 => ?_)
  · replace h := h.1 c1
    refine wp_aload_n 0 dX10_run_13 rfl rfl ?_
    refine wp_getR dX10_run_14 fl_RX10_10 rfl (sh9_K hS) (sh9_F_house hS) ?_
    refine wp_getR dX10_run_17 fl_RX10_117 rfl (sh2_K (sh9_S_house hS)) (sh2_F_furnace (sh9_S_house hS)) ?_
    refine wp_getI dX10_run_20 fl_RX10_172 rfl (sh1_K (sh2_S_furnace (sh9_S_house hS))) ?_
    refine wp_iload_n 1 dX10_run_23 rfl rfl ?_
    refine wp_iadd dX10_run_24 ?_
    refine wp_sipush (v := 999) dX10_run_25 rfl ?_
    refine wp_icmp_le (tgt := 34) dX10_run_28 (by decide) (fun c2 => ?_) (fun c2 => ?_)
    · replace h := h.1 c2
      refine wp_iconst (v := 0) dX10_run_34 rfl ?_
      refine wp_istore_n (lo2 := [(2, .int _), (0, .ref _), (1, .int _)]) dX10_run_35 rfl (by decide) rfl ?_
      exact Wp.sub [1, 2, 0] rfl h
    · replace h := h.2 c2
      refine wp_ldc dX10_run_31 kc_RX10_111 ?_
      exact wn_iret dX10_run_33 rfl h
  · replace h := h.2 c1
    refine wp_ldc dX10_run_10 kc_RX10_67 ?_
    exact wn_iret dX10_run_12 rfl h
theorem bX10_run_36 {G : Gl} {d : Nat} {X : Sh} {M : Mm} {Q : Mm → Int32 → Prop} {a : Nat} {x1 : Int32} {x2 : Int32} (hS : Sh9 X a) (h : ((x1 ≤ x2 → Q M (mI M ((a + 1) + 8) 0)) ∧ (¬ (x1 ≤ x2) → (∃ q2 : Mm → Prop, Cv G m_X2_passHour d [.ref (a + 1), .ref ((a + 1) + 8)] X M q2 ∧ ∀ M4, q2 M4 → Wn G m_X10_run (d + 1) 36 [(0, .ref a), (1, .int x1), (2, .int (x2 + 1))] [] X M4 Q)))) : Wn G m_X10_run (d + 1) 36 [(0, .ref a), (1, .int x1), (2, .int x2)] [] X M Q := by
  refine wp_iload_n 2 dX10_run_36 rfl rfl ?_
  refine wp_iload_n 1 dX10_run_37 rfl rfl ?_
  refine wp_icmp_ge (tgt := 61) dX10_run_38 (by decide) (fun c1 => ?_) (fun c1 => ?_)
  · replace h := h.1 c1
    refine wp_aload_n 0 dX10_run_61 rfl rfl ?_
    refine wp_getR dX10_run_62 fl_RX10_10 rfl (sh9_K hS) (sh9_F_house hS) ?_
    refine wp_getR dX10_run_65 fl_RX10_117 rfl (sh2_K (sh9_S_house hS)) (sh2_F_furnace (sh9_S_house hS)) ?_
    refine wp_getI dX10_run_68 fl_RX10_172 rfl (sh1_K (sh2_S_furnace (sh9_S_house hS))) ?_
    exact wn_iret dX10_run_71 rfl h
  · replace h := h.2 c1
    refine wp_aload_n 0 dX10_run_41 rfl rfl ?_
    refine wp_getR dX10_run_42 fl_RX10_10 rfl (sh9_K hS) (sh9_F_house hS) ?_
    refine wp_aload_n 0 dX10_run_45 rfl rfl ?_
    refine wp_getR dX10_run_46 fl_RX10_10 rfl (sh9_K hS) (sh9_F_house hS) ?_
    refine wp_getR dX10_run_49 fl_RX10_117 rfl (sh2_K (sh9_S_house hS)) (sh2_F_furnace (sh9_S_house hS)) ?_
    obtain ⟨q2, o3, h⟩ := h
    refine wp_cvv dX10_run_52 ck_RX10_173 (sh2_K (sh9_S_house hS)) (as := [.ref ((a + 1) + 8)]) rfl rfl (Nat.le_of_ble_eq_true rfl) o3 (fun M4 o5 => ?_)
    replace h := h M4 o5
    refine wp_iinc (v := x2 + 1) (lo2 := [(2, .int _), (0, .ref _), (1, .int _)]) dX10_run_55 (q := 2) rfl rfl (by decide) rfl ?_
    refine wp_goto (tgt := 36) dX10_run_58 (by decide) ?_
    exact Wp.sub [1, 2, 0] rfl h
theorem bX11_run_0 {G : Gl} {d : Nat} {X : Sh} {M : Mm} {Q : Mm → Int32 → Prop} {a : Nat} {x1 : Int32} (hS : Sh10 X a) (h : ((1 ≤ x1 ∧ x1 ≤ 60 → ((((mI M (a + 1) 5) + x1) ≤ 999 → Wn G m_X11_run (d + 1) 34 [(0, .ref a), (1, .int x1), (2, .int 0)] [] X M Q) ∧ (¬ (((mI M (a + 1) 5) + x1) ≤ 999) → Q M (-1000000003)))) ∧ (¬ (1 ≤ x1 ∧ x1 ≤ 60) → Q M (-1000000001)))) : Wn G m_X11_run (d + 1) 0 [(0, .ref a), (1, .int x1)] [] X M Q := by
  refine wp_iload_n 1 dX11_run_0 rfl rfl ?_
  refine wp_i2l dX11_run_1 ?_
  refine wp_lconst (v := 1) dX11_run_2 rfl ?_
  refine wp_ldc2 dX11_run_3 kc_RX11_201 ?_
  refine wp_csip dX11_run_6 ck_RX11_78 rfl (as := [.long x1.toInt64, .long 1, .long 60]) rfl rfl (Nat.le_of_ble_eq_true rfl) (cp_X11_isIn G d X M x1 1 60 (by decide) (by decide)) ?_
  refine wp_ifB_ne (inferInstance) (tgt := 15) dX11_run_9 (by decide) (fun c1 => ?_) (fun c1 => ?_)
  · replace h := h.1 c1
    refine wp_aload_n 0 dX11_run_15 rfl rfl ?_
    refine wp_getR dX11_run_16 fl_RX11_7 rfl (sh10_K hS) (sh10_F_s hS) ?_
    refine wp_iconst (v := 5) dX11_run_19 rfl ?_
    refine wp_iald (n := 2950) dX11_run_20 (sh10_K_s hS) (sh10_N_s hS) (by decide) rfl (by decide) ?_
    refine wp_iload_n 1 dX11_run_21 rfl rfl ?_
    refine wp_iadd dX11_run_22 ?_
    refine wp_sipush (v := 999) dX11_run_23 rfl ?_
    refine wp_icmp_le (tgt := 32) dX11_run_26 (by decide) (fun c2 => ?_) (fun c2 => ?_)
    · replace h := h.1 c2
      refine wp_iconst (v := 0) dX11_run_32 rfl ?_
      refine wp_istore_n (lo2 := [(2, .int _), (0, .ref _), (1, .int _)]) dX11_run_33 rfl (by decide) rfl ?_
      exact Wp.sub [1, 2, 0] rfl h
    · replace h := h.2 c2
      refine wp_ldc dX11_run_29 kc_RX11_101 ?_
      exact wn_iret dX11_run_31 rfl h
  · replace h := h.2 c1
    refine wp_ldc dX11_run_12 kc_RX11_100 ?_
    exact wn_iret dX11_run_14 rfl h
theorem bX11_run_34 {G : Gl} {d : Nat} {X : Sh} {M : Mm} {Q : Mm → Int32 → Prop} {a : Nat} {x1 : Int32} {x2 : Int32} (hS : Sh10 X a) (h : ((x1 ≤ x2 → Q M (mI M (a + 1) 5)) ∧ (¬ (x1 ≤ x2) → (∃ q2 : Mm → Prop, Cv G m_X11_oneHour d [.ref a] X M q2 ∧ ∀ M4, q2 M4 → Wn G m_X11_run (d + 1) 34 [(0, .ref a), (1, .int x1), (2, .int (x2 + 1))] [] X M4 Q)))) : Wn G m_X11_run (d + 1) 34 [(0, .ref a), (1, .int x1), (2, .int x2)] [] X M Q := by
  refine wp_iload_n 2 dX11_run_34 rfl rfl ?_
  refine wp_iload_n 1 dX11_run_35 rfl rfl ?_
  refine wp_icmp_ge (tgt := 49) dX11_run_36 (by decide) (fun c1 => ?_) (fun c1 => ?_)
  · replace h := h.1 c1
    refine wp_aload_n 0 dX11_run_49 rfl rfl ?_
    refine wp_getR dX11_run_50 fl_RX11_7 rfl (sh10_K hS) (sh10_F_s hS) ?_
    refine wp_iconst (v := 5) dX11_run_53 rfl ?_
    refine wp_iald (n := 2950) dX11_run_54 (sh10_K_s hS) (sh10_N_s hS) (by decide) rfl (by decide) ?_
    exact wn_iret dX11_run_55 rfl h
  · replace h := h.2 c1
    refine wp_aload_n 0 dX11_run_39 rfl rfl ?_
    obtain ⟨q2, o3, h⟩ := h
    refine wp_cvv dX11_run_40 ck_RX11_203 (sh10_K hS) (as := []) rfl rfl (Nat.le_of_ble_eq_true rfl) o3 (fun M4 o5 => ?_)
    replace h := h M4 o5
    refine wp_iinc (v := x2 + 1) (lo2 := [(2, .int _), (0, .ref _), (1, .int _)]) dX11_run_43 (q := 2) rfl rfl (by decide) rfl ?_
    refine wp_goto (tgt := 34) dX11_run_46 (by decide) ?_
    exact Wp.sub [1, 2, 0] rfl h
def OKh (σ : Nat → Int32) : Prop := ∃ nl nx, HourOK σ nl nx
/-- the reference's frame in hours -/
def OffM (m : Nat) (M M2 : Mm) : Prop := (∀ c, c ≠ m → c ≠ m + 1 → c ≠ m + 13 → c ≠ m + 18 → c ≠ m + 19 → mI M2 c = mI M c) ∧ (∀ k, k ≠ 17 → mI M2 m k = mI M m k) ∧ mR M2 = mR M
theorem OffR.trans {h : Nat} {M M2 M3 : Mm} (h1 : OffR h M M2) (h2 : OffR h M2 M3) : OffR h M M3 := ⟨fun c hc => (h2.1 c hc).trans (h1.1 c hc), fun c hc => (h2.2 c hc).trans (h1.2 c hc)⟩
theorem cl_X10_run (G : Gl) (d : Nat) (hd : 5 ≤ d) {X : Sh} {b N nb nx nt nd : Nat} {σ : Nat → Int32} {Q : Mm → Int32 → Prop} (hS : Sh9 X b) (hN : N ≤ 60) (t : Nat) (htN : t + N ≤ 999) (M0 : Mm) (hq : ∀ M2 nl2 la2, HSx M2 (b + 1) (s_hrs N σ) nb nl2 nx nt nd la2 → OffR (b + 1) M0 M2 → (∀ j, j ≤ N → OKh (s_hrs j σ)) → Q M2 (s_hrs N σ 5)) :
    ∀ (n i nl : Nat) (la : Nat → Nat) (M : Mm), i + n = N → HSx M (b + 1) (s_hrs i σ) nb nl nx nt nd la → OffR (b + 1) M0 M → (∀ j, j ≤ i → OKh (s_hrs j σ)) → s_hrs i σ 5 = nI (t + i) → Wn G m_X10_run (d + 1) 36 [(0, .ref b), (1, .int (nI N)), (2, .int (nI i))] [] X M Q
  | 0, i, nl, la, M, h, hH, hO, hK, _ => by
    have hi : i = N := h
    subst hi
    refine bX10_run_36 hS ⟨fun _ => ?_, fun q => absurd (Int32.le_refl _) q⟩
    have e : mI M (b + 1 + 8) 0 = s_hrs i σ 5 := hH.2.2.1.2.1.1
    rw [e]
    exact hq M nl la hH hO hK
  | n + 1, i, nl, la, M, h, hH, hO, hK, h5t => by
    obtain ⟨hW, hB, hF, hT, hD, hR⟩ := id hH
    obtain ⟨w0, w1, w2, w3, w4, w5, w6, w7, w8, w9, wb, wf, wl, wt, wd, sl, g, s1, s2, s3, s4, s5⟩ := id hW
    have hSh := sh9_S_house hS
    refine bX10_run_36 hS ⟨fun q => ?_, fun _ => ⟨_, cp_X2_passHour G d hd X M (b + 1) (b + 1 + 8) nl nx g (s_hrs i σ) la 0 hSh (sh2_S_furnace hSh) (by omega) w3 w5 hT hF wf (hR 1 (by omega)) s5 s3, ?_⟩⟩
    · have := (nI_leI (by omega) (by omega)).mp q
      omega
    · rintro M4 ⟨M1, o1, h4⟩
      have e5 : s_hrs (i + 1) σ 5 = nI (t + (i + 1)) := by
        show s_hr (s_hrs i σ) 5 = _
        rw [hr_5 w2 w3 w4 w5, h5t, nI_1]
        exact congrArg nI (by omega)
      obtain ⟨to, la2, h5, h6, h7⟩ := hH.hour o1 h4 ⟨_, by omega, e5⟩
      rw [nI_1]
      refine cl_X10_run G d hd hS hN t htN M0 hq n (i + 1) to la2 M4 (by omega) h6 (hO.trans h7) (fun j hj => ?_) e5
      by_cases e : j = i + 1
      · subst e
        exact ⟨_, _, h6.ok⟩
      · exact hK j (by omega)
theorem cl_X11_run (G : Gl) (d : Nat) (hd : 6 ≤ d) {X : Sh} {m N : Nat} {σ : Nat → Int32} {Q : Mm → Int32 → Prop} (hM : Sh10 X m) (hN : N ≤ 60) (M0 : Mm) (hK : ∀ j, j ≤ N → OKh (s_hrs j σ)) (hq : ∀ M2, mI M2 (m + 1) = s_hrs N σ → OffM m M0 M2 → Q M2 (s_hrs N σ 5)) :
    ∀ (n i : Nat) (M : Mm), i + n = N → mI M (m + 1) = s_hrs i σ → OffM m M0 M → Wn G m_X11_run (d + 1) 34 [(0, .ref m), (1, .int (nI N)), (2, .int (nI i))] [] X M Q
  | 0, i, M, h, hH, hO => by
    have hi : i = N := h
    subst hi
    refine bX11_run_34 hM ⟨fun _ => ?_, fun q => absurd (Int32.le_refl _) q⟩
    rw [hH]
    exact hq M hH hO
  | n + 1, i, M, h, hH, hO => by
    obtain ⟨nl, nx, ok⟩ := hK i (by omega)
    have ok2 := ok
    rw [← hH] at ok2
    refine bX11_run_34 hM ⟨fun q => ?_, fun _ => ⟨_, cp_X11_oneHour G d hd X M m nl nx hM ok2, ?_⟩⟩
    · have := (nI_leI (by omega) (by omega)).mp q
      omega
    · rintro M4 ⟨e1, e2, e3, e4⟩
      rw [nI_1]
      refine cl_X11_run G d hd hM hN M0 hK hq n (i + 1) M4 (by omega) ?_ ⟨fun c h1 h2 h3 h4 h5 => by rw [e3 c h1 h2 h3 h4 h5]; exact hO.1 c h1 h2 h3 h4 h5, fun k hk => by rw [e2, upd_ne hk]; exact hO.2.1 k hk, by rw [e4]; exact hO.2.2⟩
      obtain ⟨o1, o2, o3, o4, _⟩ := ok
      rw [e1, hH]
      exact (s_hr_eq o1 o2 o3 o4 _).symm
/-- the rest stays through the class's hours and the reference's -/
theorem Rest.hours {M M2 M3 : Mm} {b m : Nat} (h : Rest M b m) (hbm : b + 266 ≤ m) (h1 : OffR (b + 1) M M2) (h2 : OffM m M2 M3) : Rest M3 b m := by
  have e : ∀ c, c < m → c < b + 1 + 8 ∨ b + 1 + 81 < c → mI M3 c = mI M c := fun c hc h4 => by rw [h2.1 c (by omega) (by omega) (by omega) (by omega) (by omega), h1.1 c h4]
  have f : ∀ k, k ≠ 17 → mI M3 m k = mI M m k := fun k hk => by rw [h2.2.1 k hk, h1.1 m (by omega)]
  refine h.mem (fun c hc => ?_) (by rw [e b (by omega) (by omega)]) (by rw [e b (by omega) (by omega)]) (by rw [e (b + 227) (by omega) (by omega)]) (f _ (by omega)) (f _ (by omega)) (f _ (by omega)) (by rw [h2.2.2, h1.2 _ (by omega)]) ?_
  · unfold RestK at hc
    rw [h2.1 c (by omega) (by omega) (by omega) (by omega) (by omega), h1.1 c (by omega)]
  · obtain ⟨la, p1, p2⟩ := h.2.1.2
    exact ⟨la, fun j hj => by rw [h2.2.2, h1.2 _ (by omega)]; exact p1 j hj, p2⟩
theorem case_run (G : Gl) (d : Nat) (hd : 16 ≤ d) (X : Sh) (b m : Nat) (hS : Sh9 X b) (hM : Sh10 X m) (hbm : b + 266 ≤ m) (x1 : Int32) : Case G d X b m m_X10_run m_X11_run [.int x1] := by
  obtain ⟨d, rfl⟩ : ∃ d1, d = d1 + 1 := ⟨d - 1, by omega⟩
  intro M hs
  obtain ⟨⟨nb, nl, nx, nt, nd, la, hh⟩, hr⟩ := id hs
  obtain ⟨hW, hB, hF, hT, hD, hR⟩ := id hh
  have e5 : mI M (b + 1 + 8) 0 = mI M (m + 1) 5 := hF.2.1.1
  by_cases h : 1 ≤ x1 ∧ x1 ≤ 60
  · by_cases h2 : mI M (m + 1) 5 + x1 ≤ 999
    · obtain ⟨N, hN, rfl⟩ := ix_le (nb := 60) (by omega) (Int32.le_trans (by decide) h.1) h.2
      refine Cn.of (by decide) (Nat.le_of_ble_eq_true rfl) (bX10_run_0 hS ⟨fun _ => ⟨fun _ => ?_, fun q => absurd (by rw [e5]; exact h2) q⟩, fun q => absurd h q⟩)
      obtain ⟨w0, w1, w2, w3, w4, w5, w6, w7, w8, w9, wb, wf, wl, wt, wd, sl, g, s1, ⟨s2, t, ht, et⟩, _⟩ := id hW
      rw [et, nI_add] at h2
      have htN := (nI_leI (b := 999) (by omega) (by omega)).mp h2
      rw [← nI_add, ← et] at h2
      refine cl_X10_run G d (by omega) hS hN t htN M (fun M2 nl2 la2 h3 h4 h5 => ?_) N 0 nl la M (by omega) hh ⟨fun _ _ => rfl, fun _ _ => rfl⟩ (fun j hj => ?_) et
      · have s2 : mI M2 (m + 1) = mI M (m + 1) := h4.1 _ (by omega)
        refine Cn.of (by decide) (Nat.le_of_ble_eq_true rfl) (bX11_run_0 hM ⟨fun _ => ⟨fun _ => ?_, fun q => absurd (by rw [s2]; exact h2) q⟩, fun q => absurd h q⟩)
        refine cl_X11_run G d (by omega) hM hN M2 h5 (fun M3 h6 h7 => ⟨rfl, ⟨nb, nl2, nx, nt, nd, la2, ?_⟩, hr.hours hbm h4 h7⟩) N 0 M2 (by omega) s2 ⟨fun _ _ _ _ _ _ => rfl, fun _ _ => rfl, rfl⟩
        rw [h6]
        exact h3.mem (fun c h8 h9 _ => h7.1 c (by omega) (by omega) (by omega) (by omega) (by omega)) (by rw [h7.2.2])
      · have : j = 0 := by omega
        subst this
        exact ⟨_, _, hh.ok⟩
    · exact Cn.of (by decide) (Nat.le_of_ble_eq_true rfl) (bX10_run_0 hS ⟨fun _ => ⟨fun q => absurd (by rw [e5] at q; exact q) h2, fun _ => Cn.of (by decide) (Nat.le_of_ble_eq_true rfl) (bX11_run_0 hM ⟨fun _ => ⟨fun q => absurd q h2, fun _ => ⟨rfl, hs⟩⟩, fun q => absurd h q⟩)⟩, fun q => absurd h q⟩)
  · exact Cn.of (by decide) (Nat.le_of_ble_eq_true rfl) (bX10_run_0 hS ⟨fun q => absurd q h, fun _ => Cn.of (by decide) (Nat.le_of_ble_eq_true rfl) (bX11_run_0 hM ⟨fun q => absurd q h, fun _ => ⟨rfl, hs⟩⟩)⟩)
