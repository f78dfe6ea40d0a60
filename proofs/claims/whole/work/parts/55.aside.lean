/-! a row set aside; keep, back; hours of the flat row alone -/
theorem bX11_setAside_0 {G : Gl} {d : Nat} {X : Sh} {M : Mm} {Q : Mm → Prop} {a : Nat} {b1 : Nat} {b2 : Nat} (hS : Sh10 X a) (hK1 : xK X b1 = 11) (hN1 : xN X b1 = 2950) (hK2 : xK X b2 = 11) (hN2 : xN X b2 = 2950) (h : Wv G m_X11_setAside d 2 [(1, .ref b1), (2, .ref b2), (3, .int 0)] [] X M Q) : Wv G m_X11_setAside d 0 [(0, .ref a), (1, .ref b1), (2, .ref b2)] [] X M Q := by
  refine wp_iconst (v := 0) dX11_setAside_0 rfl ?_
  refine wp_istore_n (lo2 := [(3, .int _), (0, .ref _), (1, .ref _), (2, .ref _)]) dX11_setAside_1 rfl (by decide) rfl ?_
  exact Wp.sub [2, 3, 0] rfl h
theorem bX11_setAside_2 {G : Gl} {d : Nat} {X : Sh} {M : Mm} {Q : Mm → Prop} {b1 : Nat} {b2 : Nat} {x3 : Int32} (hK1 : xK X b1 = 11) (hN1 : xN X b1 = 2950) (hK2 : xK X b2 = 11) (hN2 : xN X b2 = 2950) (h : ((2950 ≤ x3 → Q M) ∧ (¬ (2950 ≤ x3) → (∃ j2 : Nat, x3 = nI j2 ∧ j2 < 2950 ∧ (∀ M5 : Mm, M5 = sI M b2 j2 (mI M b1 j2) → Wv G m_X11_setAside d 2 [(1, .ref b1), (2, .ref b2), (3, .int (x3 + 1))] [] X M5 Q))))) : Wv G m_X11_setAside d 2 [(1, .ref b1), (2, .ref b2), (3, .int x3)] [] X M Q := by
  refine wp_iload_n 2 dX11_setAside_2 rfl rfl ?_
  refine wp_sipush (v := 2950) dX11_setAside_3 rfl ?_
  refine wp_icmp_ge (tgt := 21) dX11_setAside_6 (by decide) (fun c1 => ?_) (fun c1 => ?_)
  · replace h := h.1 c1
    exact wv_ret dX11_setAside_21 rfl h
  · replace h := h.2 c1
    refine wp_aload_n 1 dX11_setAside_9 rfl rfl ?_
    refine wp_iload_n 2 dX11_setAside_10 rfl rfl ?_
    refine wp_aload_n 0 dX11_setAside_11 rfl rfl ?_
    refine wp_iload_n 2 dX11_setAside_12 rfl rfl ?_
    obtain ⟨j2, o3, o4, h⟩ := h
    refine wp_iald (n := 2950) dX11_setAside_13 hK1 hN1 (by decide) o3 o4 ?_
    refine wp_iast (n := 2950) dX11_setAside_14 hK2 hN2 (by decide) o3 o4 ?_
    refine wp_nm (fun M5 eM5 => ?_)
    replace h := h M5 eM5
    refine wp_iinc (v := x3 + 1) (lo2 := [(3, .int _), (1, .ref _), (2, .ref _)]) dX11_setAside_15 (q := 2) rfl rfl (by decide) rfl ?_
    refine wp_goto (tgt := 2) dX11_setAside_18 (by decide) ?_
    exact Wp.sub [1, 2, 0] rfl h
/-- the row at q has become the row at p -/
def AsQ (M : Mm) (p q : Nat) (M2 : Mm) : Prop := (∀ k, k < 2950 → mI M2 q k = mI M p k) ∧ (∀ c, c ≠ q → mI M2 c = mI M c) ∧ mR M2 = mR M
theorem cl_setAside (G : Gl) (d : Nat) {X : Sh} {p q : Nat} {Q : Mm → Prop} (hK1 : xK X p = 11) (hN1 : xN X p = 2950) (hK2 : xK X q = 11) (hN2 : xN X q = 2950) (hpq : p ≠ q) (M0 : Mm) (hq : ∀ M2, AsQ M0 p q M2 → Q M2) :
    ∀ (n i : Nat) (M : Mm), i + n = 2950 → (∀ k, k < i → mI M q k = mI M0 p k) → (∀ c, c ≠ q → mI M c = mI M0 c) → mR M = mR M0 → Wv G m_X11_setAside d 2 [(1, .ref p), (2, .ref q), (3, .int (nI i))] [] X M Q
  | 0, i, M, h, h1, h2, h3 => by
    have hi : i = 2950 := h
    refine bX11_setAside_2 hK1 hN1 hK2 hN2 ⟨fun _ => hq M ⟨fun k hk => h1 k (by omega), h2, h3⟩, fun r => absurd ((nI_leI (a := 2950) (by omega) (by omega)).mpr (by omega)) r⟩
  | n + 1, i, M, h, h1, h2, h3 => by
    refine bX11_setAside_2 hK1 hN1 hK2 hN2 ⟨fun r => ?_, fun _ => ⟨i, rfl, by omega, ?_⟩⟩
    · have := (nI_leI (a := 2950) (by omega) (by omega)).mp r
      omega
    · intro M5 e5
      rw [nI_1]
      refine cl_setAside G d hK1 hN1 hK2 hN2 hpq M0 hq n (i + 1) M5 (by omega) (fun k hk => ?_) (fun c hc => ?_) ?_
      · rw [e5, mI_sI]
        by_cases e : k = i
        · subst e
          rw [up2_same, h2 p hpq]
        · rw [up2_k _ _ _ e]
          exact h1 k (by omega)
      · rw [e5, mI_sI, up2_off _ _ _ hc, h2 c hc]
      · rw [e5]
        exact h3
theorem cp_X11_setAside (G : Gl) (d : Nat) (X : Sh) (M : Mm) (m p q : Nat) (hS : Sh10 X m) (hK1 : xK X p = 11) (hN1 : xN X p = 2950) (hK2 : xK X q = 11) (hN2 : xN X q = 2950) (hpq : p ≠ q) : Cv G m_X11_setAside d [.ref m, .ref p, .ref q] X M (AsQ M p q) := by
  refine Cv.of (by decide) (Nat.le_of_ble_eq_true rfl) (bX11_setAside_0 hS hK1 hN1 hK2 hN2 ?_)
  exact cl_setAside G d hK1 hN1 hK2 hN2 hpq M (fun M2 h => h) 2950 0 M (by omega) (fun k hk => absurd hk (by omega)) (fun _ _ => rfl) rfl
theorem T_ok.congB {σ τ : Nat → Int32} {t : Nat} (ht : t < 12) (h : T_ok σ t) (e : ∀ k, 340 ≤ k → k < 2950 → τ k = σ k) : T_ok τ t := by
  obtain ⟨n, h1, h2, h3, h4, h5⟩ := h
  have hd : ∀ k, k ≤ 96 → dp_run τ (344 + 200 * t) k = dp_run σ (344 + 200 * t) k := by
    intro k
    induction k with
    | zero => exact fun _ => rfl
    | succ k ih =>
      intro hk
      show (dp_run τ (344 + 200 * t) k).bind _ = (dp_run σ (344 + 200 * t) k).bind _
      rw [ih (by omega), e _ (by omega) (by omega), e _ (by omega) (by omega)]
  refine ⟨n, by rw [e _ (by omega) (by omega), h1], h2, h3, by rw [hd n h3, h4], fun k hk => ?_⟩
  rw [e _ (by omega) (by omega), e _ (by omega) (by omega), e _ (by omega) (by omega)]
  exact h5 k hk
theorem TRep.congB {M : Mm} {a nx : Nat} {σ τ : Nat → Int32} (hnx : nx ≤ 12) (h : TRep M a σ nx) (e : ∀ k, 340 ≤ k → k < 2950 → τ k = σ k) : TRep M a τ nx := by
  refine ⟨h.1, fun t ht => ?_⟩
  obtain ⟨⟨v, v1, v2, v3, v4⟩, h1, h2, h3, h4⟩ := h.2 t ht
  refine ⟨⟨v, v1, by rw [e _ (by omega) (by omega), v2], v3, v4⟩, by rw [e _ (by omega) (by omega), h1], by rw [e _ (by omega) (by omega), h2], h3.congB (by omega) e, fun k hk hk2 => ?_⟩
  rw [e _ (by omega) (by omega), e _ (by omega) (by omega)]
  rw [e _ (by omega) (by omega)] at hk
  exact h4 k hk hk2
/-- the house against another row of the same first 2950 places -/
theorem HSx.eqv {M : Mm} {h nb nl nx nt nd : Nat} {σ τ : Nat → Int32} {la : Nat → Nat} (hs : HSx M h σ nb nl nx nt nd la) (e : ∀ k, k < 2950 → τ k = σ k) : HSx M h τ nb nl nx nt nd la := by
  obtain ⟨hW, hB, hF, hT, hD, hR⟩ := hs
  obtain ⟨w0, w1, w2, w3, w4, w5, w6, w7, w8, w9, wb, wf, wl, wt, wd, sl, g, s1, s2, s3, s4, s5⟩ := hW
  refine ⟨⟨by rw [e _ (by omega), w0], w1, by rw [e _ (by omega), w2], w3, by rw [e _ (by omega), w4], w5, by rw [e _ (by omega), w6], w7, by rw [e _ (by omega), w8], w9, fun b hb => ?_, wf.cong w3 (fun k hk => e k (by unfold Fk at hk; omega)), fun l hl => by rw [e _ (by omega)]; exact wl l hl, fun k hk => by rw [e _ (by omega)]; exact wt k hk, fun i hi => by rw [e _ (by omega)]; exact wd i hi, sl, g, s1, ⟨s2.1, s2.2.cong (e 5 (by omega))⟩, s3, by rw [e _ (by omega), s4], by rw [e _ (by omega), s5]⟩, ⟨hB.1, by rw [e _ (by omega)]; exact hB.2.1, fun i hi => ?_, fun k hk => by rw [e _ (by omega)]; exact hB.2.2.2 k hk⟩, hF.cong wf w3 (fun k hk => e k (by unfold Fk at hk; omega)), hT.congB w5 (fun k _ hk => e k hk), ⟨hD.1, fun i hi => ?_⟩, fun k hk => by rw [e _ (by omega)]; exact hR k hk⟩
  · obtain ⟨k, sh, v, s, hk, hsh, hv1, hv, hs9, e0, e1, e3, e4⟩ := wb b hb
    exact ⟨k, sh, v, s, hk, hsh, hv1, hv, hs9, by rw [e _ (by omega), e0], by rw [e _ (by omega), e1], by rw [e _ (by omega), e3], by rw [e _ (by omega), e4]⟩
  · rw [e _ (by omega), e _ (by omega), e _ (by omega), e _ (by omega), e _ (by omega)]
    exact hB.2.2.1 i hi
  · rw [e _ (by omega), e _ (by omega)]
    exact hD.2 i hi
theorem HS.eqv {M : Mm} {h : Nat} {σ τ : Nat → Int32} (hs : HS M h σ) (e : ∀ k, k < 2950 → τ k = σ k) : HS M h τ := by
  obtain ⟨nb, nl, nx, nt, nd, la, hs⟩ := hs
  exact ⟨nb, nl, nx, nt, nd, la, hs.eqv e⟩
/-- the rest, the image apart -/
theorem Rest.img {M M2 : Mm} {b m : Nat} (h : Rest M b m) (hI : ImR M2 b m) (e : ∀ c, c = b + 228 ∨ (b + 232 ≤ c ∧ c ≤ b + 265) ∨ (m + 4 ≤ c ∧ c ≤ m + 11) ∨ c = m + 17 ∨ c = m + 21 → mI M2 c = mI M c) (f8 : mI M2 b 8 = mI M b 8) (f227 : mI M2 (b + 227) 1 = mI M (b + 227) 1) (g19 : mI M2 m 19 = mI M m 19) (g34 : mI M2 m 34 = mI M m 34) (r : PeR M2 b) : Rest M2 b m := by
  obtain ⟨_, _, t, s, l, w⟩ := h
  refine ⟨hI, r, ?_, fun i hi => ?_, fun i hi => ?_, ?_⟩
  · unfold TaR
    rw [f227, g19, e (b + 228) (by omega), e (m + 17) (by omega)]
    exact t
  · rw [e (b + 232 + 3 * i) (by omega), e (b + 233 + 3 * i) (by omega), e (b + 234 + 3 * i) (by omega), e (m + 4) (by omega), e (m + 5) (by omega), e (m + 6) (by omega)]
    exact s i hi
  · rw [e (b + 245 + 4 * i) (by omega), e (b + 246 + 4 * i) (by omega), e (b + 247 + 4 * i) (by omega), e (b + 248 + 4 * i) (by omega), e (m + 7) (by omega), e (m + 8) (by omega), e (m + 9) (by omega), e (m + 10) (by omega), e (m + 11) (by omega)]
    exact l i hi
  · unfold WaR
    rw [f8, g34, e (b + 265) (by omega), e (m + 21) (by omega)]
    exact w
theorem bX10_keep_0 {G : Gl} {d : Nat} {X : Sh} {M : Mm} {Q : Mm → Int32 → Prop} {a : Nat} (hS : Sh9 X a) (h : (∃ q1 : Mm → Prop, Cv G m_X2_become d [.ref (a + 87), .ref (a + 1)] X M q1 ∧ ∀ M3, q1 M3 → (∀ M5 : Mm, M5 = sI M3 a 2 1 → Q M5 (mI M5 ((a + 1) + 8) 0)))) : Wn G m_X10_keep (d + 1) 0 [(0, .ref a)] [] X M Q := by
  refine wp_aload_n 0 dX10_keep_0 rfl rfl ?_
  refine wp_getR dX10_keep_1 fl_RX10_16 rfl (sh9_K hS) (sh9_F_image hS) ?_
  refine wp_aload_n 0 dX10_keep_4 rfl rfl ?_
  refine wp_getR dX10_keep_5 fl_RX10_10 rfl (sh9_K hS) (sh9_F_house hS) ?_
  obtain ⟨q1, o2, h⟩ := h
  refine wp_cvv dX10_keep_8 ck_RX10_342 (sh2_K (sh9_S_image hS)) (as := [.ref (a + 1)]) rfl rfl (Nat.le_of_ble_eq_true rfl) o2 (fun M3 o4 => ?_)
  replace h := h M3 o4
  refine wp_aload_n 0 dX10_keep_11 rfl rfl ?_
  refine wp_iconst (v := 1) dX10_keep_12 rfl ?_
  refine wp_putZ dX10_keep_13 fp_RX10_19 rfl (sh9_K hS) (Or.inr rfl) ?_
  refine wp_nm (fun M5 eM5 => ?_)
  replace h := h M5 eM5
  refine wp_aload_n 0 dX10_keep_16 rfl rfl ?_
  refine wp_getR dX10_keep_17 fl_RX10_10 rfl (sh9_K hS) (sh9_F_house hS) ?_
  refine wp_getR dX10_keep_20 fl_RX10_117 rfl (sh2_K (sh9_S_house hS)) (sh2_F_furnace (sh9_S_house hS)) ?_
  refine wp_getI dX10_keep_23 fl_RX10_172 rfl (sh1_K (sh2_S_furnace (sh9_S_house hS))) ?_
  exact wn_iret dX10_keep_26 rfl h
theorem bX11_keep_0 {G : Gl} {d : Nat} {X : Sh} {M : Mm} {Q : Mm → Int32 → Prop} {a : Nat} (hS : Sh10 X a) (h : (∀ M1 : Mm, M1 = sI M a 3 1 → (∃ q2 : Mm → Prop, Cv G m_X11_setAside d [.ref a, .ref (a + 1), .ref (a + 2)] X M1 q2 ∧ ∀ M4, q2 M4 → Q M4 (mI M4 (a + 1) 5)))) : Wn G m_X11_keep (d + 1) 0 [(0, .ref a)] [] X M Q := by
  refine wp_aload_n 0 dX11_keep_0 rfl rfl ?_
  refine wp_iconst (v := 1) dX11_keep_1 rfl ?_
  refine wp_putZ dX11_keep_2 fp_RX11_340 rfl (sh10_K hS) (Or.inr rfl) ?_
  refine wp_nm (fun M1 eM1 => ?_)
  replace h := h M1 eM1
  refine wp_aload_n 0 dX11_keep_5 rfl rfl ?_
  refine wp_aload_n 0 dX11_keep_6 rfl rfl ?_
  refine wp_getR dX11_keep_7 fl_RX11_7 rfl (sh10_K hS) (sh10_F_s hS) ?_
  refine wp_aload_n 0 dX11_keep_10 rfl rfl ?_
  refine wp_getR dX11_keep_11 fl_RX11_13 rfl (sh10_K hS) (sh10_F_image hS) ?_
  obtain ⟨q2, o3, h⟩ := h
  refine wp_cvv dX11_keep_14 ck_RX11_212 (sh10_K hS) (as := [.ref (a + 1), .ref (a + 2)]) rfl rfl (Nat.le_of_ble_eq_true rfl) o3 (fun M4 o5 => ?_)
  replace h := h M4 o5
  refine wp_aload_n 0 dX11_keep_17 rfl rfl ?_
  refine wp_getR dX11_keep_18 fl_RX11_7 rfl (sh10_K hS) (sh10_F_s hS) ?_
  refine wp_iconst (v := 5) dX11_keep_21 rfl ?_
  refine wp_iald (n := 2950) dX11_keep_22 (sh10_K_s hS) (sh10_N_s hS) (by decide) rfl (by decide) ?_
  exact wn_iret dX11_keep_23 rfl h
theorem bX10_back_0 {G : Gl} {d : Nat} {X : Sh} {M : Mm} {Q : Mm → Int32 → Prop} {a : Nat} (hS : Sh9 X a) (h : ((¬ ((mI M a 2) = 0) → (∃ q2 : Mm → Prop, Cv G m_X2_become d [.ref (a + 1), .ref (a + 87)] X M q2 ∧ ∀ M4, q2 M4 → Q M4 (mI M4 ((a + 1) + 8) 0))) ∧ ((mI M a 2) = 0 → Q M (-1000000002)))) : Wn G m_X10_back (d + 1) 0 [(0, .ref a)] [] X M Q := by
  refine wp_aload_n 0 dX10_back_0 rfl rfl ?_
  refine wp_getI dX10_back_1 fl_RX10_19 rfl (sh9_K hS) ?_
  refine wp_if_ne (tgt := 10) dX10_back_4 (by decide) (fun c1 => ?_) (fun c1 => ?_)
  · replace h := h.1 c1
    refine wp_aload_n 0 dX10_back_10 rfl rfl ?_
    refine wp_getR dX10_back_11 fl_RX10_10 rfl (sh9_K hS) (sh9_F_house hS) ?_
    refine wp_aload_n 0 dX10_back_14 rfl rfl ?_
    refine wp_getR dX10_back_15 fl_RX10_16 rfl (sh9_K hS) (sh9_F_image hS) ?_
    obtain ⟨q2, o3, h⟩ := h
    refine wp_cvv dX10_back_18 ck_RX10_342 (sh2_K (sh9_S_house hS)) (as := [.ref (a + 87)]) rfl rfl (Nat.le_of_ble_eq_true rfl) o3 (fun M4 o5 => ?_)
    replace h := h M4 o5
    refine wp_aload_n 0 dX10_back_21 rfl rfl ?_
    refine wp_getR dX10_back_22 fl_RX10_10 rfl (sh9_K hS) (sh9_F_house hS) ?_
    refine wp_getR dX10_back_25 fl_RX10_117 rfl (sh2_K (sh9_S_house hS)) (sh2_F_furnace (sh9_S_house hS)) ?_
    refine wp_getI dX10_back_28 fl_RX10_172 rfl (sh1_K (sh2_S_furnace (sh9_S_house hS))) ?_
    exact wn_iret dX10_back_31 rfl h
  · replace h := h.2 c1
    refine wp_ldc dX10_back_7 kc_RX10_116 ?_
    exact wn_iret dX10_back_9 rfl h
theorem bX11_back_0 {G : Gl} {d : Nat} {X : Sh} {M : Mm} {Q : Mm → Int32 → Prop} {a : Nat} (hS : Sh10 X a) (h : ((¬ ((mI M a 3) = 0) → (∃ q2 : Mm → Prop, Cv G m_X11_setAside d [.ref a, .ref (a + 2), .ref (a + 1)] X M q2 ∧ ∀ M4, q2 M4 → Q M4 (mI M4 (a + 1) 5))) ∧ ((mI M a 3) = 0 → Q M (-1000000002)))) : Wn G m_X11_back (d + 1) 0 [(0, .ref a)] [] X M Q := by
  refine wp_aload_n 0 dX11_back_0 rfl rfl ?_
  refine wp_getI dX11_back_1 fl_RX11_340 rfl (sh10_K hS) ?_
  refine wp_if_ne (tgt := 10) dX11_back_4 (by decide) (fun c1 => ?_) (fun c1 => ?_)
  · replace h := h.1 c1
    refine wp_aload_n 0 dX11_back_10 rfl rfl ?_
    refine wp_aload_n 0 dX11_back_11 rfl rfl ?_
    refine wp_getR dX11_back_12 fl_RX11_13 rfl (sh10_K hS) (sh10_F_image hS) ?_
    refine wp_aload_n 0 dX11_back_15 rfl rfl ?_
    refine wp_getR dX11_back_16 fl_RX11_7 rfl (sh10_K hS) (sh10_F_s hS) ?_
    obtain ⟨q2, o3, h⟩ := h
    refine wp_cvv dX11_back_19 ck_RX11_212 (sh10_K hS) (as := [.ref (a + 2), .ref (a + 1)]) rfl rfl (Nat.le_of_ble_eq_true rfl) o3 (fun M4 o5 => ?_)
    replace h := h M4 o5
    refine wp_aload_n 0 dX11_back_22 rfl rfl ?_
    refine wp_getR dX11_back_23 fl_RX11_7 rfl (sh10_K hS) (sh10_F_s hS) ?_
    refine wp_iconst (v := 5) dX11_back_26 rfl ?_
    refine wp_iald (n := 2950) dX11_back_27 (sh10_K_s hS) (sh10_N_s hS) (by decide) rfl (by decide) ?_
    exact wn_iret dX11_back_28 rfl h
  · replace h := h.2 c1
    refine wp_ldc dX11_back_7 kc_RX11_153 ?_
    exact wn_iret dX11_back_9 rfl h
theorem case_keep (G : Gl) (d : Nat) (hd : 16 ≤ d) (X : Sh) (b m : Nat) (hS : Sh9 X b) (hM : Sh10 X m) (hbm : b + 266 ≤ m) : Case G d X b m m_X10_keep m_X11_keep [] := by
  obtain ⟨d, rfl⟩ : ∃ d1, d = d1 + 1 := ⟨d - 1, by omega⟩
  intro M hs
  obtain ⟨⟨nb, nl, nx, nt, nd, la, hh⟩, hr⟩ := id hs
  obtain ⟨hI, hPe, _⟩ := id hr
  obtain ⟨⟨la1, hP1⟩, hP2⟩ := id hPe
  have eR2 : ∀ M2 : Mm, mR M2 = mR M → PeR M2 b := fun M2 e => ⟨⟨la1, hP1.mR e⟩, by obtain ⟨la, p⟩ := hP2; exact ⟨la, p.mR e⟩⟩
  refine Cn.of (by decide) (Nat.le_of_ble_eq_true rfl) (bX10_keep_0 hS ⟨_, cp_X2_become G d (by omega) X M (b + 87) (b + 1) nb nl nx nt nd (mI M (m + 1)) la1 la (sh9_S_image hS) (sh9_S_house hS) (by omega) hh hP1, ?_⟩)
  rintro M3 ⟨h3, o3, r3⟩
  intro M5 e5
  have o5 : ∀ c, c ≠ b → mI M5 c = mI M3 c := fun c hc => by rw [e5, mI_sI, up2_off _ _ _ hc]
  have r5 : mR M5 = mR M3 := by rw [e5]; rfl
  have b5 : ∀ k, k ≠ 2 → mI M5 b k = mI M b k := fun k hk => by rw [e5, mI_sI, up2_k _ _ _ hk, o3 _ (by omega)]
  refine Cn.of (by decide) (Nat.le_of_ble_eq_true rfl) (bX11_keep_0 hM ?_)
  intro N1 f1
  have p1 : ∀ c, c ≠ m → mI N1 c = mI M5 c := fun c hc => by rw [f1, mI_sI, up2_off _ _ _ hc]
  have q1 : mR N1 = mR M5 := by rw [f1]; rfl
  have m1 : ∀ k, k ≠ 3 → mI N1 m k = mI M m k := fun k hk => by rw [f1, mI_sI, up2_k _ _ _ hk, o5 _ (by omega), o3 _ (by omega)]
  refine ⟨_, cp_X11_setAside G d X N1 m (m + 1) (m + 2) hM (sh10_K_s hM) (sh10_N_s hM) (sh10_K_image hM) (sh10_N_image hM) (by omega), ?_⟩
  rintro N4 ⟨a4, p4, q4⟩
  have rr : mR N4 = mR M := by rw [q4, q1, r5, r3]
  have s1 : mI N1 (m + 1) = mI M (m + 1) := by rw [p1 _ (by omega), o5 _ (by omega), o3 _ (by omega)]
  have s4 : mI N4 (m + 1) = mI M (m + 1) := by rw [p4 _ (by omega), s1]
  have oo : ∀ c, c ≠ b → c < b + 88 ∨ b + 172 < c → c ≠ m → c ≠ m + 2 → mI N4 c = mI M c := fun c h1 h2 h4 h5 => by rw [p4 c h5, p1 c h4, o5 c h1, o3 c (by omega)]
  refine ⟨?_, ?_, hr.img ⟨?_, fun _ => ?_⟩ (fun c hc => oo c (by omega) (by omega) (by omega) (by omega)) ?_ ?_ ?_ ?_ (eR2 N4 rr)⟩
  · rw [s4, o5 _ (by omega), o3 _ (by omega)]
    exact hh.2.2.1.2.1.1
  · rw [s4]
    exact hs.1.mem (fun c h1 h2 _ => oo c (by omega) (by omega) (by omega) (by omega)) (by rw [rr])
  · rw [p4 b (by omega), p1 b (by omega), e5, mI_sI, up2_same, p4 m (by omega), f1, mI_sI, up2_same]
  · refine HS.eqv (σ := mI M (m + 1)) ⟨nb, nl, nx, nt, nd, la1, h3.mem (fun c h1 h2 _ => ?_) ?_⟩ (fun k hk => ?_)
    · rw [p4 c (by omega), p1 c (by omega), o5 c (by omega)]
    · rw [q4, q1, r5]
    · rw [a4 k hk, s1]
  · rw [p4 b (by omega), p1 b (by omega), b5 8 (by omega)]
  · rw [oo _ (by omega) (by omega) (by omega) (by omega)]
  · rw [p4 m (by omega), m1 _ (by omega)]
  · rw [p4 m (by omega), m1 _ (by omega)]
theorem case_back (G : Gl) (d : Nat) (hd : 16 ≤ d) (X : Sh) (b m : Nat) (hS : Sh9 X b) (hM : Sh10 X m) (hbm : b + 266 ≤ m) : Case G d X b m m_X10_back m_X11_back [] := by
  obtain ⟨d, rfl⟩ : ∃ d1, d = d1 + 1 := ⟨d - 1, by omega⟩
  intro M hs
  obtain ⟨⟨nb, nl, nx, nt, nd, la, hh⟩, hr⟩ := id hs
  obtain ⟨⟨i1, i2⟩, hPe, _⟩ := id hr
  by_cases h0 : mI M m 3 = 0
  · exact Cn.of (by decide) (Nat.le_of_ble_eq_true rfl) (bX10_back_0 hS ⟨fun q => absurd (i1.trans h0) q, fun _ => Cn.of (by decide) (Nat.le_of_ble_eq_true rfl) (bX11_back_0 hM ⟨fun q => absurd h0 q, fun _ => ⟨rfl, hs⟩⟩)⟩)
  · obtain ⟨nb2, nl2, nx2, nt2, nd2, la2, h2⟩ := i2 h0
    refine Cn.of (by decide) (Nat.le_of_ble_eq_true rfl) (bX10_back_0 hS ⟨fun _ => ⟨_, cp_X2_become G d (by omega) X M (b + 1) (b + 87) nb2 nl2 nx2 nt2 nd2 (mI M (m + 2)) la la2 (sh9_S_house hS) (sh9_S_image hS) (by omega) h2 hh.2.2.1.1, ?_⟩, fun q => absurd (i1.symm.trans q) h0⟩)
    rintro M4 ⟨h4, o4, r4⟩
    have m4 : mI M4 m = mI M m := o4 _ (by omega)
    refine Cn.of (by decide) (Nat.le_of_ble_eq_true rfl) (bX11_back_0 hM ⟨fun _ => ⟨_, cp_X11_setAside G d X M4 m (m + 2) (m + 1) hM (sh10_K_image hM) (sh10_N_image hM) (sh10_K_s hM) (sh10_N_s hM) (by omega), ?_⟩, fun q => absurd (by rw [← m4]; exact q) h0⟩)
    rintro N4 ⟨a4, p4, q4⟩
    have e4 : ∀ k, k < 2950 → mI N4 (m + 1) k = mI M (m + 2) k := fun k hk => by rw [a4 k hk, o4 _ (by omega)]
    refine ⟨?_, ?_, hr.house hbm (fun c h5 h6 => by rw [p4 c h6, o4 c (by omega)]) (fun c _ => by rw [q4, r4])⟩
    · rw [e4 _ (by omega)]
      exact h4.2.2.1.2.1.1
    · exact HS.eqv (σ := mI M (m + 2)) ⟨nb2, nl2, nx2, nt2, nd2, la, h4.mem (fun c h1 h3 _ => p4 c (by omega)) (by rw [q4])⟩ e4
theorem FW.eats {r nl : Nat} (hnl : nl ≤ 24) (hr : r < 5) : ∀ (n i : Nat) (e : Int32) (σ : Nat → Int32), i + n ≤ nl → FW σ nl → FW (s_eat r n i e σ) nl
  | 0, _, _, _, _, h => h
  | n + 1, i, e, σ, h, hW => by
    by_cases he : e ≤ 0
    · have e2 : s_eat r (n + 1) i e σ = σ := if_pos he
      rw [e2]
      exact hW
    · have e2 : s_eat r (n + 1) i e σ = s_eat r n (i + 1) (e - s_takes σ i r e) (s_goes σ i r (s_takes σ i r e)) := if_neg he
      rw [e2]
      obtain ⟨x, hx, hxy⟩ := (hW i (by omega)).takes hr he
      rw [hx]
      exact FW.eats hnl hr n (i + 1) _ _ (by omega) (fun l hl => (hW l hl).goes (by omega) (by omega) hr (fun q => by rw [← q] at hxy; exact fun y => by rw [← q]; exact hxy y))
theorem FW.rings {nl : Nat} {p : Nat → Int32} (hnl : nl ≤ 24) : ∀ (n r : Nat) (σ : Nat → Int32), r + n = 5 → FW σ nl → FW (s_rings nl p n r σ) nl
  | 0, _, _, _, h => h
  | n + 1, r, σ, h, hW => FW.rings hnl n (r + 1) _ (by omega) (FW.eats hnl (by omega) nl 0 _ σ (by omega) hW)
theorem WL.drop (fol : Int32) : ∀ (n l to : Nat) (g : Int32) (σ : Nat → Int32), to ≤ l → l + n ≤ 24 → (∀ j, j < to → WL σ j) → (∀ j, l ≤ j → j < l + n → WL σ j) → ∀ j, j < (s_drop fol n l to g σ).1 → WL (s_drop fol n l to g σ).2.2 j
  | 0, _, _, _, _, _, _, h1, _ => h1
  | n + 1, l, to, g, σ, h0, h24, h1, h2 => by
    by_cases h : s_bulkOf σ l ≤ 0
    · rw [s_drop_cons_skip h]
      exact WL.drop fol n (l + 1) to g σ (by omega) (by omega) h1 (fun j h3 h4 => h2 j (by omega) (by omega))
    · rw [s_drop_cons_keep h]
      refine WL.drop fol n (l + 1) (to + 1) _ _ (by omega) (by omega) (fun j hj => ?_) (fun j h3 h4 => ?_)
      · by_cases e : j = to
        · subst e
          exact (h2 l (Nat.le_refl _) (by omega)).move (fun k h5 h6 => scpl_o (by omega)) (fun k hk => scpl_t hk)
        · exact (h1 j (by omega)).move (fun k h5 h6 => scpl_o (by omega)) (fun k hk => scpl_o (by omega))
      · exact (h2 j (by omega) (by omega)).move (fun k h5 h6 => scpl_o (by omega)) (fun k hk => scpl_o (by omega))
/-- a flat row over which hours can pass -/
def PH (σ : Nat → Int32) (nl nx : Nat) : Prop := FW σ nl ∧ σ 1 = nI nl ∧ nl ≤ 24 ∧ σ 2 = nI nx ∧ nx ≤ 12 ∧ ∀ t, t < nx → T_ok σ t
theorem PH.ok {σ : Nat → Int32} {nl nx : Nat} (h : PH σ nl nx) : HourOK σ nl nx := by
  obtain ⟨wf, w2, w3, w4, w5, wt⟩ := h
  refine ⟨w2, w3, w4, w5, fun t ht _ => wt t ht, fun l hl => ?_, fun r hr => ?_⟩
  · obtain ⟨b, k, sh, t, w, g, ρ, hb, hk, hsh, ht, hw1, hw2, e0, ek, es, et, ew, _⟩ := wf l hl
    refine ⟨⟨b, hb, e0⟩, fun q => ?_⟩
    rw [ew] at q
    have := (nI_inj (b := 0) (by omega) (by omega)).mp q
    omega
  · obtain ⟨R, h1, h2, h3⟩ := res_nat hr wf
    rw [h3]
    intro q
    have := (nI_inj (b := 0) (by omega) (by omega)).mp q
    omega
theorem HSx.ph {M : Mm} {h nb nl nx nt nd : Nat} {σ : Nat → Int32} {la : Nat → Nat} (hs : HSx M h σ nb nl nx nt nd la) : PH σ nl nx := by
  obtain ⟨⟨w0, w1, w2, w3, w4, w5, w6, w7, w8, w9, wb, wf, _⟩, hB, hF, hT, _⟩ := hs
  exact ⟨wf, w2, w3, w4, w5, fun t ht => (hT.2 t ht).2.2.2.1⟩
theorem PH.pass {σ : Nat → Int32} {nl nx : Nat} (h : PH σ nl nx) (p : Nat → Int32) (fol : Int32) : ∃ to, to ≤ nl ∧ PH (s_pass σ nl p fol).1 to nx := by
  obtain ⟨wf, w2, w3, w4, w5, wt⟩ := h
  have hle := drop_le fol nl 0 0 (-1) (s_rings nl p 5 0 σ)
  refine ⟨(s_drop fol nl 0 0 (-1) (s_rings nl p 5 0 σ)).1, by omega, fun l hl => ?_, ?_, by omega, by rw [pass_off w3 (by omega), w4], w5, fun t ht => (wt t ht).cong (fun k hk => pass_off w3 (by omega))⟩
  · have hw := WL.drop fol nl 0 0 (-1) (s_rings nl p 5 0 σ) (by omega) (by omega) (fun j hj => absurd hj (by omega)) (fun j _ hj => FW.rings w3 5 0 σ (by omega) wf j (by omega)) l hl
    refine hw.move (fun k h1 h2 => ?_) (fun k hk => ?_)
    · show upd (upd (s_drop fol nl 0 0 (-1) (s_rings nl p 5 0 σ)).2.2 1 (nI (s_drop fol nl 0 0 (-1) (s_rings nl p 5 0 σ)).1)) 5 ((s_drop fol nl 0 0 (-1) (s_rings nl p 5 0 σ)).2.2 5 + 1) k = _
      rw [upd_ne (by omega), upd_ne (by omega)]
    · show upd (upd (s_drop fol nl 0 0 (-1) (s_rings nl p 5 0 σ)).2.2 1 (nI (s_drop fol nl 0 0 (-1) (s_rings nl p 5 0 σ)).1)) 5 ((s_drop fol nl 0 0 (-1) (s_rings nl p 5 0 σ)).2.2 5 + 1) (60 + 10 * l + k) = _
      rw [upd_ne (by omega), upd_ne (by omega)]
  · show upd (upd (s_drop fol nl 0 0 (-1) (s_rings nl p 5 0 σ)).2.2 1 (nI (s_drop fol nl 0 0 (-1) (s_rings nl p 5 0 σ)).1)) 5 ((s_drop fol nl 0 0 (-1) (s_rings nl p 5 0 σ)).2.2 5 + 1) 1 = _
    rw [upd_ne (by omega), upd_eq]
theorem PH.hr {σ : Nat → Int32} {nl nx : Nat} (h : PH σ nl nx) : ∃ to, to ≤ nl ∧ PH (s_hr σ) to nx := by
  rw [s_hr_eq h.2.1 h.2.2.1 h.2.2.2.1 h.2.2.2.2.1 0]
  exact h.pass _ _
theorem PH.hrs {σ : Nat → Int32} {nl nx : Nat} (h : PH σ nl nx) : ∀ n, ∃ to, to ≤ nl ∧ PH (s_hrs n σ) to nx
  | 0 => ⟨nl, Nat.le_refl _, h⟩
  | n + 1 => by
    obtain ⟨to, h1, h2⟩ := PH.hrs h n
    obtain ⟨to2, h3, h4⟩ := h2.hr
    exact ⟨to2, by omega, h4⟩
