/-! calls that change the house: fill, turns, charge -/
theorem Rest.house {M M2 : Mm} {b m : Nat} (h : Rest M b m) (hbm : b + 266 ≤ m) (e : ∀ c, c < b + 1 ∨ b + 86 < c → c ≠ m + 1 → mI M2 c = mI M c) (eR : ∀ c, c ≠ b + 10 → mR M2 c = mR M c) : Rest M2 b m := by
  refine h.mem (fun c hc => e c ?_ ?_) (by rw [e b (by omega) (by omega)]) (by rw [e b (by omega) (by omega)]) (by rw [e (b + 227) (by omega) (by omega)]) (by rw [e m (by omega) (by omega)]) (by rw [e m (by omega) (by omega)]) (by rw [e m (by omega) (by omega)]) (eR _ (by omega)) ?_
  · unfold RestK at hc
    omega
  · unfold RestK at hc
    omega
  · obtain ⟨la, p1, p2⟩ := h.2.1.2
    exact ⟨la, fun j hj => by rw [eR _ (by omega)]; exact p1 j hj, p2⟩
theorem upd_ne {f : Nat → Int32} {j k : Nat} {v : Int32} (h : k ≠ j) : upd f j v k = f k := if_neg h
theorem upd_eq {f : Nat → Int32} {j : Nat} {v : Int32} : upd f j v j = v := if_pos rfl
theorem WS.set {σ τ : Nat → Int32} {nb nl nx nt nd : Nat} (h : WS σ nb nl nx nt nd) (e : ∀ k, k < 20 ∨ 50 ≤ k ∨ k % 5 ≤ 1 → τ k = σ k) (hB : ∀ b, b < nb → WB τ b) : WS τ nb nl nx nt nd := by
  obtain ⟨w0, w1, w2, w3, w4, w5, w6, w7, w8, w9, wb, wf, wl, wt, wd, sl, g, s1, s2, s3, s4, s5⟩ := h
  refine ⟨by rw [e _ (by omega), w0], w1, by rw [e _ (by omega), w2], w3, by rw [e _ (by omega), w4], w5, by rw [e _ (by omega), w6], w7, by rw [e _ (by omega), w8], w9, hB, wf.cong w3 (fun k hk => e k (by unfold Fk at hk; omega)), fun l hl => by rw [e _ (by omega)]; exact wl l hl, fun k hk => ?_, fun i hi => ?_, sl, g, s1, ⟨s2.1, s2.2.cong (e 5 (by omega))⟩, s3, by rw [e _ (by omega), s4], by rw [e _ (by omega), s5]⟩
  · rw [e _ (by omega)]
    exact wt k hk
  · rw [e _ (by omega)]
    exact wd i hi
theorem T_ok.cong {σ τ : Nat → Int32} {t : Nat} (h : T_ok σ t) (e : ∀ k, 340 ≤ k → τ k = σ k) : T_ok τ t := by
  obtain ⟨n, h1, h2, h3, h4, h5⟩ := h
  have hd : ∀ k, dp_run τ (344 + 200 * t) k = dp_run σ (344 + 200 * t) k := by
    intro k
    induction k with
    | zero => rfl
    | succ k ih =>
      show (dp_run τ (344 + 200 * t) k).bind _ = (dp_run σ (344 + 200 * t) k).bind _
      rw [ih, e _ (by omega), e _ (by omega)]
  refine ⟨n, by rw [e _ (by omega), h1], h2, h3, by rw [hd, h4], fun k hk => ?_⟩
  rw [e _ (by omega), e _ (by omega), e _ (by omega)]
  exact h5 k hk
theorem TRep.cong {M : Mm} {a nx : Nat} {σ τ : Nat → Int32} (h : TRep M a σ nx) (e : ∀ k, 340 ≤ k → τ k = σ k) : TRep M a τ nx := by
  refine ⟨h.1, fun t ht => ?_⟩
  obtain ⟨⟨v, v1, v2, v3, v4⟩, h1, h2, h3, h4⟩ := h.2 t ht
  refine ⟨⟨v, v1, by rw [e _ (by omega), v2], v3, v4⟩, by rw [e _ (by omega), h1], by rw [e _ (by omega), h2], h3.cong e, fun k hk hk2 => ?_⟩
  rw [e _ (by omega), e _ (by omega)]
  rw [e _ (by omega)] at hk
  exact h4 k hk hk2
theorem HSx.bins {M M2 : Mm} {h nb nl nx nt nd : Nat} {σ τ : Nat → Int32} {la : Nat → Nat} (hs : HSx M h σ nb nl nx nt nd la) (e : ∀ k, k < 20 ∨ 50 ≤ k ∨ k % 5 ≤ 1 → τ k = σ k) (hB : ∀ b, b < nb → WB τ b) (hBR : BRep M2 (h + 1) τ nb) (eM : ∀ c, h + 8 ≤ c → c ≤ h + 85 → mI M2 c = mI M c) (eR : mR M2 (h + 9) = mR M (h + 9)) : HSx M2 h τ nb nl nx nt nd la := by
  obtain ⟨hW, _, hF, hT, hD, hR⟩ := hs
  obtain ⟨w0, w1, w2, w3, w4, w5, w6, w7, w8, w9, wb, wf, _⟩ := id hW
  refine ⟨hW.set e hB, hBR, (hF.cong wf w3 (fun k hk => e k (by unfold Fk at hk; omega))).mem w3 (fun c h1 h2 => eM c (by omega) (by omega)) eR, (hT.cong (fun k hk => e k (by omega))).mem w5 (fun c h1 h2 => eM c (by omega) (by omega)), ?_, fun k hk => ?_⟩
  · refine ⟨by rw [eM _ (by omega) (by omega)]; exact hD.1, fun i hi => ?_⟩
    rw [eM _ (by omega) (by omega), eM _ (by omega) (by omega), e _ (by omega), e _ (by omega)]
    exact hD.2 i hi
  · rw [eM _ (by omega) (by omega), e _ (by omega)]
    exact hR k hk
theorem BRep.set {M M2 : Mm} {a nb i j : Nat} {σ : Nat → Int32} {v : Int32} (h : BRep M a σ nb) (hnb : nb ≤ 6) (hi : i < nb) (hj : j = 3 ∨ j = 4) (e1 : mI M2 (a + 1 + j) = upd (mI M (a + 1 + j)) i v) (e : ∀ c, a ≤ c → c ≤ a + 6 → c ≠ a + 1 + j → mI M2 c = mI M c) : BRep M2 a (upd σ (20 + j + 5 * i) v) nb := by
  obtain ⟨h1, h2, h3, h4⟩ := h
  refine ⟨by rw [e _ (by omega) (by omega) (by omega), h1], by rw [e _ (by omega) (by omega) (by omega), h2, upd_ne (by omega)], fun q hq => ?_, fun k hk => ?_⟩
  · obtain ⟨p0, p1, p2, p3, p4⟩ := h3 q hq
    have two : ∀ c, c = 3 ∨ c = 4 → mI M (a + 1 + c) q = σ (20 + c + 5 * q) → mI M2 (a + 1 + c) q = upd σ (20 + j + 5 * i) v (20 + c + 5 * q) := fun c hc hp => by
      by_cases e2 : c = j
      · subst e2
        rw [e1]
        by_cases e3 : q = i
        · subst e3
          rw [upd_eq, upd_eq]
        · rw [upd_ne e3, upd_ne (by omega), hp]
      · rw [e _ (by omega) (by omega) (by omega), upd_ne (by omega), hp]
    refine ⟨?_, ?_, ?_, two 3 (Or.inl rfl) p3, two 4 (Or.inr rfl) p4⟩
    · rw [e _ (by omega) (by omega) (by omega), upd_ne (by omega), p0]
    · rw [e _ (by omega) (by omega) (by omega), upd_ne (by omega), p1]
    · rw [e _ (by omega) (by omega) (by omega), upd_ne (by omega), p2]
  · rw [e _ (by omega) (by omega) (by omega), upd_ne (by omega), h4 k hk]
theorem WB.ne {σ : Nat → Int32} {b j : Nat} {v : Int32} (h : WB σ b) (hj : j < 20 + 5 * b ∨ 24 + 5 * b < j) : WB (upd σ j v) b := by
  obtain ⟨k, sh, v2, s, h1, h2, h3, h4, h5, e0, e1, e3, e4⟩ := h
  exact ⟨k, sh, v2, s, h1, h2, h3, h4, h5, by rw [upd_ne (by omega), e0], by rw [upd_ne (by omega), e1], by rw [upd_ne (by omega), e3], by rw [upd_ne (by omega), e4]⟩
theorem bX10_fill_0 {G : Gl} {d : Nat} {X : Sh} {M : Mm} {Q : Mm → Int32 → Prop} {a : Nat} {x1 : Int32} {x2 : Int32} (hS : Sh9 X a) (h : ((¬ (0 ≤ x1 ∧ x1 < mI M ((a + 1) + 1) 5) → Q M (-1000000001)) ∧ (0 ≤ x1 ∧ x1 < mI M ((a + 1) + 1) 5 → ((1 ≤ x2 ∧ x2 ≤ 9999 → (∃ j3 : Nat, x1 = nI j3 ∧ j3 < 6 ∧ ((((mI M (((a + 1) + 1) + 4) j3) + x2) ≤ 9999 → (∀ M7 : Mm, M7 = sI M (((a + 1) + 1) + 4) j3 ((mI M (((a + 1) + 1) + 4) j3) + x2) → Q M7 (mI M7 (((a + 1) + 1) + 4) j3))) ∧ (¬ (((mI M (((a + 1) + 1) + 4) j3) + x2) ≤ 9999) → Q M (-1000000003))))) ∧ (¬ (1 ≤ x2 ∧ x2 ≤ 9999) → Q M (-1000000001)))))) : Wn G m_X10_fill (d + 1) 0 [(0, .ref a), (1, .int x1), (2, .int x2)] [] X M Q := by
  refine wp_aload_n 0 dX10_fill_0 rfl rfl ?_
  refine wp_getR dX10_fill_1 fl_RX10_10 rfl (sh9_K hS) (sh9_F_house hS) ?_
  refine wp_getR dX10_fill_4 fl_RX10_68 rfl (sh2_K (sh9_S_house hS)) (sh2_F_bins (sh9_S_house hS)) ?_
  refine wp_iload_n 1 dX10_fill_7 rfl rfl ?_
  refine wp_cvip dX10_fill_8 ck_RX10_78 (sh0_K (sh2_S_bins (sh9_S_house hS))) (as := [.int x1]) rfl rfl (Nat.le_of_ble_eq_true rfl) (cp_X0_has G d X M ((a + 1) + 1) x1 (sh2_S_bins (sh9_S_house hS))) ?_
  refine wp_ifB_eq (inferInstance) (tgt := 25) dX10_fill_11 (by decide) (fun c1 => ?_) (fun c1 => ?_)
  · replace h := h.1 c1
    refine wp_ldc dX10_fill_25 kc_RX10_67 ?_
    exact wn_iret dX10_fill_27 rfl h
  · replace h := h.2 c1
    refine wp_iload_n 2 dX10_fill_14 rfl rfl ?_
    refine wp_iconst (v := 1) dX10_fill_15 rfl ?_
    refine wp_sipush (v := 9999) dX10_fill_16 rfl ?_
    refine wp_csip dX10_fill_19 ck_RX10_63 rfl (as := [.int x2, .int 1, .int 9999]) rfl rfl (Nat.le_of_ble_eq_true rfl) (cp_X10_isWithin G d X M x2 1 9999) ?_
    refine wp_ifB_ne (inferInstance) (tgt := 28) dX10_fill_22 (by decide) (fun c2 => ?_) (fun c2 => ?_)
    · replace h := h.1 c2
      refine wp_aload_n 0 dX10_fill_28 rfl rfl ?_
      refine wp_getR dX10_fill_29 fl_RX10_10 rfl (sh9_K hS) (sh9_F_house hS) ?_
      refine wp_getR dX10_fill_32 fl_RX10_68 rfl (sh2_K (sh9_S_house hS)) (sh2_F_bins (sh9_S_house hS)) ?_
      refine wp_getR dX10_fill_35 fl_RX10_90 rfl (sh0_K (sh2_S_bins (sh9_S_house hS))) (sh0_F_tons (sh2_S_bins (sh9_S_house hS))) ?_
      refine wp_iload_n 1 dX10_fill_38 rfl rfl ?_
      obtain ⟨j3, o4, o5, h⟩ := h
      refine wp_iald (n := 6) dX10_fill_39 (sh0_K_tons (sh2_S_bins (sh9_S_house hS))) (sh0_N_tons (sh2_S_bins (sh9_S_house hS))) (by decide) o4 o5 ?_
      refine wp_iload_n 2 dX10_fill_40 rfl rfl ?_
      refine wp_iadd dX10_fill_41 ?_
      refine wp_sipush (v := 9999) dX10_fill_42 rfl ?_
      refine wp_icmp_le (tgt := 51) dX10_fill_45 (by decide) (fun c6 => ?_) (fun c6 => ?_)
      · replace h := h.1 c6
        refine wp_aload_n 0 dX10_fill_51 rfl rfl ?_
        refine wp_getR dX10_fill_52 fl_RX10_10 rfl (sh9_K hS) (sh9_F_house hS) ?_
        refine wp_getR dX10_fill_55 fl_RX10_68 rfl (sh2_K (sh9_S_house hS)) (sh2_F_bins (sh9_S_house hS)) ?_
        refine wp_getR dX10_fill_58 fl_RX10_90 rfl (sh0_K (sh2_S_bins (sh9_S_house hS))) (sh0_F_tons (sh2_S_bins (sh9_S_house hS))) ?_
        refine wp_iload_n 1 dX10_fill_61 rfl rfl ?_
        refine wp_dup2_11 dX10_fill_62 rfl rfl ?_
        refine wp_iald (n := 6) dX10_fill_63 (sh0_K_tons (sh2_S_bins (sh9_S_house hS))) (sh0_N_tons (sh2_S_bins (sh9_S_house hS))) (by decide) o4 o5 ?_
        refine wp_iload_n 2 dX10_fill_64 rfl rfl ?_
        refine wp_iadd dX10_fill_65 ?_
        refine wp_iast (n := 6) dX10_fill_66 (sh0_K_tons (sh2_S_bins (sh9_S_house hS))) (sh0_N_tons (sh2_S_bins (sh9_S_house hS))) (by decide) o4 o5 ?_
        refine wp_nm (fun M7 eM7 => ?_)
        replace h := h M7 eM7
        refine wp_aload_n 0 dX10_fill_67 rfl rfl ?_
        refine wp_getR dX10_fill_68 fl_RX10_10 rfl (sh9_K hS) (sh9_F_house hS) ?_
        refine wp_getR dX10_fill_71 fl_RX10_68 rfl (sh2_K (sh9_S_house hS)) (sh2_F_bins (sh9_S_house hS)) ?_
        refine wp_getR dX10_fill_74 fl_RX10_90 rfl (sh0_K (sh2_S_bins (sh9_S_house hS))) (sh0_F_tons (sh2_S_bins (sh9_S_house hS))) ?_
        refine wp_iload_n 1 dX10_fill_77 rfl rfl ?_
        refine wp_iald (n := 6) dX10_fill_78 (sh0_K_tons (sh2_S_bins (sh9_S_house hS))) (sh0_N_tons (sh2_S_bins (sh9_S_house hS))) (by decide) o4 o5 ?_
        exact wn_iret dX10_fill_79 rfl h
      · replace h := h.2 c6
        refine wp_ldc dX10_fill_48 kc_RX10_111 ?_
        exact wn_iret dX10_fill_50 rfl h
    · replace h := h.2 c2
      refine wp_ldc dX10_fill_25 kc_RX10_67 ?_
      exact wn_iret dX10_fill_27 rfl h
theorem bX11_fill_0 {G : Gl} {d : Nat} {X : Sh} {M : Mm} {Q : Mm → Int32 → Prop} {a : Nat} {x1 : Int32} {x2 : Int32} (hS : Sh10 X a) (hd : 1 ≤ d) (h : ((¬ (0 ≤ x1 ∧ x1 ≤ mI M (a + 1) 0 - 1) → Q M (-1000000001)) ∧ (0 ≤ x1 ∧ x1 ≤ mI M (a + 1) 0 - 1 → ((1 ≤ x2 ∧ x2 ≤ 9999 → (∀ v3 : Int32, v3 = ((20 + 5 * x1) + 3) → (∃ j4 : Nat, v3 = nI j4 ∧ j4 < 2950 ∧ ((((mI M (a + 1) j4) + x2) ≤ 9999 → (∀ M8 : Mm, M8 = sI M (a + 1) j4 ((mI M (a + 1) j4) + x2) → Q M8 (mI M8 (a + 1) j4))) ∧ (¬ (((mI M (a + 1) j4) + x2) ≤ 9999) → Q M (-1000000003)))))) ∧ (¬ (1 ≤ x2 ∧ x2 ≤ 9999) → Q M (-1000000001)))))) : Wn G m_X11_fill (d + 1) 0 [(0, .ref a), (1, .int x1), (2, .int x2)] [] X M Q := by
  refine wp_aload_n 0 dX11_fill_0 rfl rfl ?_
  refine wp_iload_n 1 dX11_fill_1 rfl rfl ?_
  refine wp_cvip dX11_fill_2 ck_RX11_102 (sh10_K hS) (as := [.int x1]) rfl rfl (Nat.le_of_ble_eq_true rfl) (cp_X11_isBin G d (by omega) X M a x1 hS) ?_
  refine wp_ifB_eq (inferInstance) (tgt := 20) dX11_fill_5 (by decide) (fun c1 => ?_) (fun c1 => ?_)
  · replace h := h.1 c1
    refine wp_ldc dX11_fill_20 kc_RX11_100 ?_
    exact wn_iret dX11_fill_22 rfl h
  · replace h := h.2 c1
    refine wp_iload_n 2 dX11_fill_8 rfl rfl ?_
    refine wp_i2l dX11_fill_9 ?_
    refine wp_lconst (v := 1) dX11_fill_10 rfl ?_
    refine wp_ldc2 dX11_fill_11 kc_RX11_98 ?_
    refine wp_csip dX11_fill_14 ck_RX11_78 rfl (as := [.long x2.toInt64, .long 1, .long 9999]) rfl rfl (Nat.le_of_ble_eq_true rfl) (cp_X11_isIn G d X M x2 1 9999 (by decide) (by decide)) ?_
    refine wp_ifB_ne (inferInstance) (tgt := 23) dX11_fill_17 (by decide) (fun c2 => ?_) (fun c2 => ?_)
    · replace h := h.1 c2
      refine wp_aload_n 0 dX11_fill_23 rfl rfl ?_
      refine wp_iload_n 1 dX11_fill_24 rfl rfl ?_
      refine wp_cvip dX11_fill_25 ck_RX11_86 (sh10_K hS) (as := [.int x1]) rfl rfl (Nat.le_of_ble_eq_true rfl) (cp_X11_binAt G d X M a x1 hS) ?_
      refine wp_iconst (v := 3) dX11_fill_28 rfl ?_
      refine wp_iadd dX11_fill_29 ?_
      refine wp_topi (fun v3 ev3 => ?_)
      replace h := h v3 ev3
      refine wp_istore_n (lo2 := [(3, .int _), (0, .ref _), (1, .int _), (2, .int _)]) dX11_fill_30 rfl (by decide) rfl ?_
      refine wp_aload_n 1 dX11_fill_31 rfl rfl ?_
      refine wp_getR dX11_fill_32 fl_RX11_7 rfl (sh10_K hS) (sh10_F_s hS) ?_
      refine wp_iload_n 0 dX11_fill_35 rfl rfl ?_
      obtain ⟨j4, o5, o6, h⟩ := h
      refine wp_iald (n := 2950) dX11_fill_36 (sh10_K_s hS) (sh10_N_s hS) (by decide) o5 o6 ?_
      refine wp_iload_n 3 dX11_fill_37 rfl rfl ?_
      refine wp_iadd dX11_fill_38 ?_
      refine wp_sipush (v := 9999) dX11_fill_39 rfl ?_
      refine wp_icmp_le (tgt := 48) dX11_fill_42 (by decide) (fun c7 => ?_) (fun c7 => ?_)
      · replace h := h.1 c7
        refine wp_aload_n 1 dX11_fill_48 rfl rfl ?_
        refine wp_getR dX11_fill_49 fl_RX11_7 rfl (sh10_K hS) (sh10_F_s hS) ?_
        refine wp_iload_n 0 dX11_fill_52 rfl rfl ?_
        refine wp_dup2_11 dX11_fill_53 rfl rfl ?_
        refine wp_iald (n := 2950) dX11_fill_54 (sh10_K_s hS) (sh10_N_s hS) (by decide) o5 o6 ?_
        refine wp_iload_n 3 dX11_fill_55 rfl rfl ?_
        refine wp_iadd dX11_fill_56 ?_
        refine wp_iast (n := 2950) dX11_fill_57 (sh10_K_s hS) (sh10_N_s hS) (by decide) o5 o6 ?_
        refine wp_nm (fun M8 eM8 => ?_)
        replace h := h M8 eM8
        refine wp_aload_n 1 dX11_fill_58 rfl rfl ?_
        refine wp_getR dX11_fill_59 fl_RX11_7 rfl (sh10_K hS) (sh10_F_s hS) ?_
        refine wp_iload_n 0 dX11_fill_62 rfl rfl ?_
        refine wp_iald (n := 2950) dX11_fill_63 (sh10_K_s hS) (sh10_N_s hS) (by decide) o5 o6 ?_
        exact wn_iret dX11_fill_64 rfl h
      · replace h := h.2 c7
        refine wp_ldc dX11_fill_45 kc_RX11_101 ?_
        exact wn_iret dX11_fill_47 rfl h
    · replace h := h.2 c2
      refine wp_ldc dX11_fill_20 kc_RX11_100 ?_
      exact wn_iret dX11_fill_22 rfl h
theorem case_fill (G : Gl) (d : Nat) (hd : 16 ≤ d) (X : Sh) (b m : Nat) (hS : Sh9 X b) (hM : Sh10 X m) (hbm : b + 266 ≤ m) (x1 x2 : Int32) : Case G d X b m m_X10_fill m_X11_fill [.int x1, .int x2] := by
  obtain ⟨d, rfl⟩ : ∃ d1, d = d1 + 1 := ⟨d - 1, by omega⟩
  intro M hs
  obtain ⟨⟨nb, nl, nx, nt, nd, la, hh⟩, hr⟩ := id hs
  obtain ⟨hW, hB, hF, hT, hD, hR⟩ := id hh
  obtain ⟨w0, w1, w2, w3, w4, w5, w6, w7, w8, w9, wb, wf, _⟩ := id hW
  by_cases h : 0 ≤ x1 ∧ x1 < nI nb
  · have h' : 0 ≤ x1 ∧ x1 < mI M (b + 1 + 1) 5 := by rw [hB.1]; exact h
    have h'' : 0 ≤ x1 ∧ x1 ≤ mI M (m + 1) 0 - 1 := by rw [w0, has_iff (by omega)]; exact h
    by_cases h2 : 1 ≤ x2 ∧ x2 ≤ 9999
    · obtain ⟨i, hi, rfl⟩ := ix_of (by omega) h.1 h.2
      obtain ⟨t, ht, rfl⟩ := ix_le (nb := 9999) (by omega) (Int32.le_trans (by decide) h2.1) h2.2
      obtain ⟨b0, b1, b2, b3, b4⟩ := hB.2.2.1 i hi
      obtain ⟨k, sh, v, s, hk, hsh, hv1, hv, hs9, e0, e1, e3, e4⟩ := wb i hi
      have e3' : mI M (b + 1 + 1 + 4) i = nI s := b3.trans e3
      have ad : nI s + nI t ≤ 9999 ↔ s + t ≤ 9999 := by
        rw [nI_add]
        exact nI_leI (b := 9999) (by omega) (by omega)
      by_cases h3 : s + t ≤ 9999
      · refine Cn.of (by decide) (Nat.le_of_ble_eq_true rfl) (bX10_fill_0 hS ⟨fun q => absurd h' q, fun _ => ⟨fun _ => ⟨i, rfl, by omega, fun _ => ?_, fun q => absurd (by rw [e3']; exact ad.mpr h3) q⟩, fun q => absurd h2 q⟩⟩)
        intro M7 e7
        have m7 : ∀ c, c ≠ b + 1 + 1 + 4 → mI M7 c = mI M c := fun c hc => by rw [e7, mI_sI, up2_off _ _ _ hc]
        have v7 : mI M7 (b + 1 + 1 + 4) i = nI (s + t) := by rw [e7, mI_sI, up2_same, e3', nI_add]
        have s7 : mI M7 (m + 1) = mI M (m + 1) := m7 _ (by omega)
        have t7 : mI M7 (m + 1) (23 + 5 * i) = nI s := by rw [s7, e3]
        rw [v7]
        refine Cn.of (by decide) (Nat.le_of_ble_eq_true rfl) (bX11_fill_0 hM (by omega) ⟨fun q => absurd (by rw [s7]; exact h'') q, fun _ => ⟨fun _ => ?_, fun q => absurd h2 q⟩⟩)
        rintro v3 rfl
        refine ⟨23 + 5 * i, (by first | rfl | (simp only [n_lit, nI_add, pk_mul]; done) | (simp only [n_lit, nI_add, pk_mul]; exact congrArg nI (by omega))), by omega, fun _ => ?_, fun q => absurd (by rw [t7]; exact ad.mpr h3) q⟩
        intro M8 e8
        rw [t7, nI_add] at e8
        have m8 : ∀ c, c ≠ m + 1 → mI M8 c = mI M7 c := fun c hc => by rw [e8, mI_sI, up2_off _ _ _ hc]
        have s8 : mI M8 (m + 1) = upd (mI M (m + 1)) (23 + 5 * i) (nI (s + t)) := by rw [e8, mI_sI, up2_row, s7]
        have R8 : mR M8 = mR M := by
          rw [e8, e7]
          rfl
        refine ⟨by rw [s8, upd_eq], ⟨nb, nl, nx, nt, nd, la, ?_⟩, hr.house hbm (fun c h4 h5 => by rw [m8 _ h5, m7 _ (by omega)]) (fun c _ => by rw [R8])⟩
        rw [s8]
        refine hh.bins (fun k hk => upd_ne (by omega)) (fun b2 hb2 => ?_) (hB.set w1 hi (Or.inl rfl) ?_ (fun c h4 h5 h6 => by rw [m8 _ (by omega), m7 _ (by omega)])) (fun c h4 h5 => by rw [m8 _ (by omega), m7 _ (by omega)]) (by rw [R8])
        · by_cases e : b2 = i
          · subst e
            exact ⟨k, sh, v, s + t, hk, hsh, hv1, hv, h3, by rw [upd_ne (by omega), e0], by rw [upd_ne (by omega), e1], upd_eq, by rw [upd_ne (by omega), e4]⟩
          · exact (wb b2 hb2).ne (by omega)
        · rw [m8 _ (by omega), e7, mI_sI, up2_row, e3', nI_add]
      · refine Cn.of (by decide) (Nat.le_of_ble_eq_true rfl) (bX10_fill_0 hS ⟨fun q => absurd h' q, fun _ => ⟨fun _ => ⟨i, rfl, by omega, fun q => absurd (by rw [e3'] at q; exact ad.mp q) h3, fun _ => ?_⟩, fun q => absurd h2 q⟩⟩)
        refine Cn.of (by decide) (Nat.le_of_ble_eq_true rfl) (bX11_fill_0 hM (by omega) ⟨fun q => absurd h'' q, fun _ => ⟨fun _ => ?_, fun q => absurd h2 q⟩⟩)
        rintro v3 rfl
        exact ⟨23 + 5 * i, (by first | rfl | (simp only [n_lit, nI_add, pk_mul]; done) | (simp only [n_lit, nI_add, pk_mul]; exact congrArg nI (by omega))), by omega, fun q => absurd (by rw [e3] at q; exact ad.mp q) h3, fun _ => ⟨rfl, hs⟩⟩
    · exact Cn.of (by decide) (Nat.le_of_ble_eq_true rfl) (bX10_fill_0 hS ⟨fun q => absurd h' q, fun _ => ⟨fun q => absurd q h2, fun _ => Cn.of (by decide) (Nat.le_of_ble_eq_true rfl) (bX11_fill_0 hM (by omega) ⟨fun q => absurd h'' q, fun _ => ⟨fun q => absurd q h2, fun _ => ⟨rfl, hs⟩⟩⟩)⟩⟩)
  · have h' : ¬ (0 ≤ x1 ∧ x1 < mI M (b + 1 + 1) 5) := by rw [hB.1]; exact h
    have h'' : ¬ (0 ≤ x1 ∧ x1 ≤ mI M (m + 1) 0 - 1) := by rw [w0, has_iff (by omega)]; exact h
    exact Cn.of (by decide) (Nat.le_of_ble_eq_true rfl) (bX10_fill_0 hS ⟨fun _ => Cn.of (by decide) (Nat.le_of_ble_eq_true rfl) (bX11_fill_0 hM (by omega) ⟨fun _ => ⟨rfl, hs⟩, fun q => absurd q h''⟩), fun q => absurd q h'⟩)
theorem bX11_becomes_0 {G : Gl} {d : Nat} {X : Sh} {M : Mm} {Q : Mm → Int32 → Prop} {a : Nat} {x1 : Int32} {x2 : Int32} (hS : Sh10 X a) (h : (∃ j1 : Nat, x1 = nI j1 ∧ j1 < 2950 ∧ (∀ v4 : Int32, v4 = (mI M (a + 1) j1) → (∀ M5 : Mm, M5 = sI M (a + 1) j1 x2 → Q M5 v4)))) : Wn G m_X11_becomes d 0 [(0, .ref a), (1, .int x1), (2, .int x2)] [] X M Q := by
  refine wp_aload_n 0 dX11_becomes_0 rfl rfl ?_
  refine wp_getR dX11_becomes_1 fl_RX11_7 rfl (sh10_K hS) (sh10_F_s hS) ?_
  refine wp_iload_n 1 dX11_becomes_4 rfl rfl ?_
  obtain ⟨j1, o2, o3, h⟩ := h
  refine wp_iald (n := 2950) dX11_becomes_5 (sh10_K_s hS) (sh10_N_s hS) (by decide) o2 o3 ?_
  refine wp_topi (fun v4 ev4 => ?_)
  replace h := h v4 ev4
  refine wp_istore_n (lo2 := [(3, .int _), (0, .ref _), (1, .int _), (2, .int _)]) dX11_becomes_6 rfl (by decide) rfl ?_
  refine wp_aload_n 1 dX11_becomes_7 rfl rfl ?_
  refine wp_getR dX11_becomes_8 fl_RX11_7 rfl (sh10_K hS) (sh10_F_s hS) ?_
  refine wp_iload_n 2 dX11_becomes_11 rfl rfl ?_
  refine wp_iload_n 3 dX11_becomes_12 rfl rfl ?_
  refine wp_iast (n := 2950) dX11_becomes_13 (sh10_K_s hS) (sh10_N_s hS) (by decide) o2 o3 ?_
  refine wp_nm (fun M5 eM5 => ?_)
  replace h := h M5 eM5
  refine wp_iload_n 0 dX11_becomes_14 rfl rfl ?_
  exact wn_iret dX11_becomes_15 rfl h
theorem bX10_turns_0 {G : Gl} {d : Nat} {X : Sh} {M : Mm} {Q : Mm → Int32 → Prop} {a : Nat} {x1 : Int32} {x2 : Int32} (hS : Sh9 X a) (h : ((¬ (0 ≤ x1 ∧ x1 < mI M ((a + 1) + 1) 5) → Q M (-1000000001)) ∧ (0 ≤ x1 ∧ x1 < mI M ((a + 1) + 1) 5 → ((1 ≤ x2 ∧ x2 ≤ 99999 → (∃ j3 : Nat, x1 = nI j3 ∧ j3 < 6 ∧ (∀ v6 : Int32, v6 = (mI M (((a + 1) + 1) + 5) j3) → (∀ M7 : Mm, M7 = sI M (((a + 1) + 1) + 5) j3 x2 → Q M7 v6)))) ∧ (¬ (1 ≤ x2 ∧ x2 ≤ 99999) → Q M (-1000000001)))))) : Wn G m_X10_turns (d + 1) 0 [(0, .ref a), (1, .int x1), (2, .int x2)] [] X M Q := by
  refine wp_aload_n 0 dX10_turns_0 rfl rfl ?_
  refine wp_getR dX10_turns_1 fl_RX10_10 rfl (sh9_K hS) (sh9_F_house hS) ?_
  refine wp_getR dX10_turns_4 fl_RX10_68 rfl (sh2_K (sh9_S_house hS)) (sh2_F_bins (sh9_S_house hS)) ?_
  refine wp_iload_n 1 dX10_turns_7 rfl rfl ?_
  refine wp_cvip dX10_turns_8 ck_RX10_78 (sh0_K (sh2_S_bins (sh9_S_house hS))) (as := [.int x1]) rfl rfl (Nat.le_of_ble_eq_true rfl) (cp_X0_has G d X M ((a + 1) + 1) x1 (sh2_S_bins (sh9_S_house hS))) ?_
  refine wp_ifB_eq (inferInstance) (tgt := 24) dX10_turns_11 (by decide) (fun c1 => ?_) (fun c1 => ?_)
  · replace h := h.1 c1
    refine wp_ldc dX10_turns_24 kc_RX10_67 ?_
    exact wn_iret dX10_turns_26 rfl h
  · replace h := h.2 c1
    refine wp_iload_n 2 dX10_turns_14 rfl rfl ?_
    refine wp_iconst (v := 1) dX10_turns_15 rfl ?_
    refine wp_ldc dX10_turns_16 kc_RX10_112 ?_
    refine wp_csip dX10_turns_18 ck_RX10_63 rfl (as := [.int x2, .int 1, .int 99999]) rfl rfl (Nat.le_of_ble_eq_true rfl) (cp_X10_isWithin G d X M x2 1 99999) ?_
    refine wp_ifB_ne (inferInstance) (tgt := 27) dX10_turns_21 (by decide) (fun c2 => ?_) (fun c2 => ?_)
    · replace h := h.1 c2
      refine wp_aload_n 0 dX10_turns_27 rfl rfl ?_
      refine wp_getR dX10_turns_28 fl_RX10_10 rfl (sh9_K hS) (sh9_F_house hS) ?_
      refine wp_getR dX10_turns_31 fl_RX10_68 rfl (sh2_K (sh9_S_house hS)) (sh2_F_bins (sh9_S_house hS)) ?_
      refine wp_getR dX10_turns_34 fl_RX10_93 rfl (sh0_K (sh2_S_bins (sh9_S_house hS))) (sh0_F_turns (sh2_S_bins (sh9_S_house hS))) ?_
      refine wp_iload_n 1 dX10_turns_37 rfl rfl ?_
      obtain ⟨j3, o4, o5, h⟩ := h
      refine wp_iald (n := 6) dX10_turns_38 (sh0_K_turns (sh2_S_bins (sh9_S_house hS))) (sh0_N_turns (sh2_S_bins (sh9_S_house hS))) (by decide) o4 o5 ?_
      refine wp_topi (fun v6 ev6 => ?_)
      replace h := h v6 ev6
      refine wp_istore_n (lo2 := [(3, .int _), (0, .ref _), (1, .int _), (2, .int _)]) dX10_turns_39 rfl (by decide) rfl ?_
      refine wp_aload_n 1 dX10_turns_40 rfl rfl ?_
      refine wp_getR dX10_turns_41 fl_RX10_10 rfl (sh9_K hS) (sh9_F_house hS) ?_
      refine wp_getR dX10_turns_44 fl_RX10_68 rfl (sh2_K (sh9_S_house hS)) (sh2_F_bins (sh9_S_house hS)) ?_
      refine wp_getR dX10_turns_47 fl_RX10_93 rfl (sh0_K (sh2_S_bins (sh9_S_house hS))) (sh0_F_turns (sh2_S_bins (sh9_S_house hS))) ?_
      refine wp_iload_n 2 dX10_turns_50 rfl rfl ?_
      refine wp_iload_n 3 dX10_turns_51 rfl rfl ?_
      refine wp_iast (n := 6) dX10_turns_52 (sh0_K_turns (sh2_S_bins (sh9_S_house hS))) (sh0_N_turns (sh2_S_bins (sh9_S_house hS))) (by decide) o4 o5 ?_
      refine wp_nm (fun M7 eM7 => ?_)
      replace h := h M7 eM7
      refine wp_iload_n 0 dX10_turns_53 rfl rfl ?_
      exact wn_iret dX10_turns_54 rfl h
    · replace h := h.2 c2
      refine wp_ldc dX10_turns_24 kc_RX10_67 ?_
      exact wn_iret dX10_turns_26 rfl h
theorem bX11_turns_0 {G : Gl} {d : Nat} {X : Sh} {M : Mm} {Q : Mm → Int32 → Prop} {a : Nat} {x1 : Int32} {x2 : Int32} (hS : Sh10 X a) (hd : 1 ≤ d) (h : ((¬ (0 ≤ x1 ∧ x1 ≤ mI M (a + 1) 0 - 1) → Q M (-1000000001)) ∧ (0 ≤ x1 ∧ x1 ≤ mI M (a + 1) 0 - 1 → ((¬ (1 ≤ x2 ∧ x2 ≤ 99999) → Q M (-1000000001)) ∧ (1 ≤ x2 ∧ x2 ≤ 99999 → (∃ q3 : Mm → Int32 → Prop, Cn G m_X11_becomes d [.ref a, .int (((20 + 5 * x1) + 4)), .int x2] X M q3 ∧ ∀ M5 r6, q3 M5 r6 → Q M5 r6)))))) : Wn G m_X11_turns (d + 1) 0 [(0, .ref a), (1, .int x1), (2, .int x2)] [] X M Q := by
  refine wp_aload_n 0 dX11_turns_0 rfl rfl ?_
  refine wp_iload_n 1 dX11_turns_1 rfl rfl ?_
  refine wp_cvip dX11_turns_2 ck_RX11_102 (sh10_K hS) (as := [.int x1]) rfl rfl (Nat.le_of_ble_eq_true rfl) (cp_X11_isBin G d (by omega) X M a x1 hS) ?_
  refine wp_ifB_eq (inferInstance) (tgt := 35) dX11_turns_5 (by decide) (fun c1 => ?_) (fun c1 => ?_)
  · replace h := h.1 c1
    refine wp_ldc dX11_turns_35 kc_RX11_100 ?_
    exact wn_iret dX11_turns_37 rfl h
  · replace h := h.2 c1
    refine wp_iload_n 2 dX11_turns_8 rfl rfl ?_
    refine wp_i2l dX11_turns_9 ?_
    refine wp_lconst (v := 1) dX11_turns_10 rfl ?_
    refine wp_ldc2 dX11_turns_11 kc_RX11_125 ?_
    refine wp_csip dX11_turns_14 ck_RX11_78 rfl (as := [.long x2.toInt64, .long 1, .long 99999]) rfl rfl (Nat.le_of_ble_eq_true rfl) (cp_X11_isIn G d X M x2 1 99999 (by decide) (by decide)) ?_
    refine wp_ifB_eq (inferInstance) (tgt := 35) dX11_turns_17 (by decide) (fun c2 => ?_) (fun c2 => ?_)
    · replace h := h.1 c2
      refine wp_ldc dX11_turns_35 kc_RX11_100 ?_
      exact wn_iret dX11_turns_37 rfl h
    · replace h := h.2 c2
      refine wp_aload_n 0 dX11_turns_20 rfl rfl ?_
      refine wp_aload_n 0 dX11_turns_21 rfl rfl ?_
      refine wp_iload_n 1 dX11_turns_22 rfl rfl ?_
      refine wp_cvip dX11_turns_23 ck_RX11_86 (sh10_K hS) (as := [.int x1]) rfl rfl (Nat.le_of_ble_eq_true rfl) (cp_X11_binAt G d X M a x1 hS) ?_
      refine wp_iconst (v := 4) dX11_turns_26 rfl ?_
      refine wp_iadd dX11_turns_27 ?_
      refine wp_iload_n 2 dX11_turns_28 rfl rfl ?_
      obtain ⟨q3, o4, h⟩ := h
      refine wp_cvi dX11_turns_29 ck_RX11_127 (sh10_K hS) (as := [.int (((20 + 5 * x1) + 4)), .int x2]) rfl rfl (Nat.le_of_ble_eq_true rfl) o4 (fun M5 r6 o7 => ?_)
      replace h := h M5 r6 o7
      refine wp_goto (tgt := 37) dX11_turns_32 (by decide) ?_
      exact wn_iret dX11_turns_37 rfl h
theorem cp_X11_becomes (G : Gl) (d : Nat) (X : Sh) (M : Mm) (a j : Nat) (v : Int32) (hS : Sh10 X a) (hj : j < 2950) : Cn G m_X11_becomes d [.ref a, .int (nI j), .int v] X M (fun M2 x => M2 = sI M (a + 1) j v ∧ x = mI M (a + 1) j) := by
  refine Cn.of (by decide) (Nat.le_of_ble_eq_true rfl) (bX11_becomes_0 hS ⟨j, rfl, hj, ?_⟩)
  rintro v4 rfl M5 rfl
  exact ⟨rfl, rfl⟩
theorem case_turns (G : Gl) (d : Nat) (hd : 16 ≤ d) (X : Sh) (b m : Nat) (hS : Sh9 X b) (hM : Sh10 X m) (hbm : b + 266 ≤ m) (x1 x2 : Int32) : Case G d X b m m_X10_turns m_X11_turns [.int x1, .int x2] := by
  obtain ⟨d, rfl⟩ : ∃ d1, d = d1 + 1 := ⟨d - 1, by omega⟩
  intro M hs
  obtain ⟨⟨nb, nl, nx, nt, nd, la, hh⟩, hr⟩ := id hs
  obtain ⟨hW, hB, hF, hT, hD, hR⟩ := id hh
  obtain ⟨w0, w1, w2, w3, w4, w5, w6, w7, w8, w9, wb, wf, _⟩ := id hW
  by_cases h : 0 ≤ x1 ∧ x1 < nI nb
  · have h' : 0 ≤ x1 ∧ x1 < mI M (b + 1 + 1) 5 := by rw [hB.1]; exact h
    have h'' : 0 ≤ x1 ∧ x1 ≤ mI M (m + 1) 0 - 1 := by rw [w0, has_iff (by omega)]; exact h
    by_cases h2 : 1 ≤ x2 ∧ x2 ≤ 99999
    · obtain ⟨i, hi, rfl⟩ := ix_of (by omega) h.1 h.2
      obtain ⟨t, ht, rfl⟩ := ix_le (nb := 99999) (by omega) (Int32.le_trans (by decide) h2.1) h2.2
      have ht1 : 1 ≤ t := (nI_leI (a := 1) (by omega) (by omega)).mp h2.1
      obtain ⟨b0, b1, b2, b3, b4⟩ := hB.2.2.1 i hi
      obtain ⟨k, sh, v, s, hk, hsh, hv1, hv, hs9, e0, e1, e3, e4⟩ := wb i hi
      refine Cn.of (by decide) (Nat.le_of_ble_eq_true rfl) (bX10_turns_0 hS ⟨fun q => absurd h' q, fun _ => ⟨fun _ => ⟨i, rfl, by omega, ?_⟩, fun q => absurd h2 q⟩⟩)
      intro v6 e6 M7 e7
      have m7 : ∀ c, c ≠ b + 1 + 1 + 5 → mI M7 c = mI M c := fun c hc => by rw [e7, mI_sI, up2_off _ _ _ hc]
      have s7 : mI M7 (m + 1) = mI M (m + 1) := m7 _ (by omega)
      have e6' : v6 = mI M (m + 1) (24 + 5 * i) := e6.trans b4
      have ix : (20 + 5 * nI i + 4 : Int32) = nI (24 + 5 * i) := (by first | rfl | (simp only [n_lit, nI_add, pk_mul]; done) | (simp only [n_lit, nI_add, pk_mul]; exact congrArg nI (by omega)))
      refine Cn.of (by decide) (Nat.le_of_ble_eq_true rfl) (bX11_turns_0 hM (by omega) ⟨fun q => absurd (by rw [s7]; exact h'') q, fun _ => ⟨fun q => absurd h2 q, fun _ => ⟨_, by rw [ix]; exact cp_X11_becomes G d X M7 m (24 + 5 * i) (nI t) hM (by omega), ?_⟩⟩⟩)
      rintro M8 r8 ⟨e8, e9⟩
      have m8 : ∀ c, c ≠ m + 1 → mI M8 c = mI M7 c := fun c hc => by rw [e8, mI_sI, up2_off _ _ _ hc]
      have s8 : mI M8 (m + 1) = upd (mI M (m + 1)) (24 + 5 * i) (nI t) := by rw [e8, mI_sI, up2_row, s7]
      have R8 : mR M8 = mR M := by
        rw [e8, e7]
        rfl
      refine ⟨by rw [e6', e9, s7], ⟨nb, nl, nx, nt, nd, la, ?_⟩, hr.house hbm (fun c h4 h5 => by rw [m8 _ h5, m7 _ (by omega)]) (fun c _ => by rw [R8])⟩
      rw [s8]
      refine hh.bins (fun k hk => upd_ne (by omega)) (fun b2 hb2 => ?_) (hB.set w1 hi (Or.inr rfl) ?_ (fun c h4 h5 h6 => by rw [m8 _ (by omega), m7 _ (by omega)])) (fun c h4 h5 => by rw [m8 _ (by omega), m7 _ (by omega)]) (by rw [R8])
      · by_cases e : b2 = i
        · subst e
          exact ⟨k, sh, t, s, hk, hsh, ht1, ht, hs9, by rw [upd_ne (by omega), e0], by rw [upd_ne (by omega), e1], by rw [upd_ne (by omega), e3], upd_eq⟩
        · exact (wb b2 hb2).ne (by omega)
      · rw [m8 _ (by omega), e7, mI_sI, up2_row]
    · exact Cn.of (by decide) (Nat.le_of_ble_eq_true rfl) (bX10_turns_0 hS ⟨fun q => absurd h' q, fun _ => ⟨fun q => absurd q h2, fun _ => Cn.of (by decide) (Nat.le_of_ble_eq_true rfl) (bX11_turns_0 hM (by omega) ⟨fun q => absurd h'' q, fun _ => ⟨fun _ => ⟨rfl, hs⟩, fun q => absurd q h2⟩⟩)⟩⟩)
  · have h' : ¬ (0 ≤ x1 ∧ x1 < mI M (b + 1 + 1) 5) := by rw [hB.1]; exact h
    have h'' : ¬ (0 ≤ x1 ∧ x1 ≤ mI M (m + 1) 0 - 1) := by rw [w0, has_iff (by omega)]; exact h
    exact Cn.of (by decide) (Nat.le_of_ble_eq_true rfl) (bX10_turns_0 hS ⟨fun _ => Cn.of (by decide) (Nat.le_of_ble_eq_true rfl) (bX11_turns_0 hM (by omega) ⟨fun _ => ⟨rfl, hs⟩, fun q => absurd q h''⟩), fun q => absurd q h'⟩)
theorem bX10_charge_0 {G : Gl} {d : Nat} {X : Sh} {M : Mm} {Q : Mm → Int32 → Prop} {a : Nat} {x1 : Int32} {x2 : Int32} (hS : Sh9 X a) (h : ((¬ (0 ≤ x1 ∧ x1 < mI M ((a + 1) + 1) 5) → Q M (-1000000001)) ∧ (0 ≤ x1 ∧ x1 < mI M ((a + 1) + 1) 5 → ((1 ≤ x2 ∧ x2 ≤ 999 → (∃ j3 : Nat, x1 = nI j3 ∧ j3 < 6 ∧ ((x2 ≤ (mI M (((a + 1) + 1) + 4) j3) → ((mI M ((a + 1) + 8) 5 < 24 → (∃ q8 : Mm → Prop, Cv G m_X2_chargeOut d [.ref (a + 1), .int x1, .int x2] X M q8 ∧ ∀ M10, q8 M10 → Q M10 (mI M10 ((a + 1) + 8) 5))) ∧ (¬ (mI M ((a + 1) + 8) 5 < 24) → Q M (-1000000003)))) ∧ (¬ (x2 ≤ (mI M (((a + 1) + 1) + 4) j3)) → Q M (-1000000002))))) ∧ (¬ (1 ≤ x2 ∧ x2 ≤ 999) → Q M (-1000000001)))))) : Wn G m_X10_charge (d + 1) 0 [(0, .ref a), (1, .int x1), (2, .int x2)] [] X M Q := by
  refine wp_aload_n 0 dX10_charge_0 rfl rfl ?_
  refine wp_getR dX10_charge_1 fl_RX10_10 rfl (sh9_K hS) (sh9_F_house hS) ?_
  refine wp_getR dX10_charge_4 fl_RX10_68 rfl (sh2_K (sh9_S_house hS)) (sh2_F_bins (sh9_S_house hS)) ?_
  refine wp_iload_n 1 dX10_charge_7 rfl rfl ?_
  refine wp_cvip dX10_charge_8 ck_RX10_78 (sh0_K (sh2_S_bins (sh9_S_house hS))) (as := [.int x1]) rfl rfl (Nat.le_of_ble_eq_true rfl) (cp_X0_has G d X M ((a + 1) + 1) x1 (sh2_S_bins (sh9_S_house hS))) ?_
  refine wp_ifB_eq (inferInstance) (tgt := 25) dX10_charge_11 (by decide) (fun c1 => ?_) (fun c1 => ?_)
  · replace h := h.1 c1
    refine wp_ldc dX10_charge_25 kc_RX10_67 ?_
    exact wn_iret dX10_charge_27 rfl h
  · replace h := h.2 c1
    refine wp_iload_n 2 dX10_charge_14 rfl rfl ?_
    refine wp_iconst (v := 1) dX10_charge_15 rfl ?_
    refine wp_sipush (v := 999) dX10_charge_16 rfl ?_
    refine wp_csip dX10_charge_19 ck_RX10_63 rfl (as := [.int x2, .int 1, .int 999]) rfl rfl (Nat.le_of_ble_eq_true rfl) (cp_X10_isWithin G d X M x2 1 999) ?_
    refine wp_ifB_ne (inferInstance) (tgt := 28) dX10_charge_22 (by decide) (fun c2 => ?_) (fun c2 => ?_)
    · replace h := h.1 c2
      refine wp_aload_n 0 dX10_charge_28 rfl rfl ?_
      refine wp_getR dX10_charge_29 fl_RX10_10 rfl (sh9_K hS) (sh9_F_house hS) ?_
      refine wp_getR dX10_charge_32 fl_RX10_68 rfl (sh2_K (sh9_S_house hS)) (sh2_F_bins (sh9_S_house hS)) ?_
      refine wp_getR dX10_charge_35 fl_RX10_90 rfl (sh0_K (sh2_S_bins (sh9_S_house hS))) (sh0_F_tons (sh2_S_bins (sh9_S_house hS))) ?_
      refine wp_iload_n 1 dX10_charge_38 rfl rfl ?_
      obtain ⟨j3, o4, o5, h⟩ := h
      refine wp_iald (n := 6) dX10_charge_39 (sh0_K_tons (sh2_S_bins (sh9_S_house hS))) (sh0_N_tons (sh2_S_bins (sh9_S_house hS))) (by decide) o4 o5 ?_
      refine wp_iload_n 2 dX10_charge_40 rfl rfl ?_
      refine wp_icmp_ge (tgt := 47) dX10_charge_41 (by decide) (fun c6 => ?_) (fun c6 => ?_)
      · replace h := h.1 c6
        refine wp_aload_n 0 dX10_charge_47 rfl rfl ?_
        refine wp_getR dX10_charge_48 fl_RX10_10 rfl (sh9_K hS) (sh9_F_house hS) ?_
        refine wp_getR dX10_charge_51 fl_RX10_117 rfl (sh2_K (sh9_S_house hS)) (sh2_F_furnace (sh9_S_house hS)) ?_
        refine wp_cvip dX10_charge_54 ck_RX10_120 (sh1_K (sh2_S_furnace (sh9_S_house hS))) (as := []) rfl rfl (Nat.le_of_ble_eq_true rfl) (cp_X1_hasRoom G d X M ((a + 1) + 8) (sh2_S_furnace (sh9_S_house hS))) ?_
        refine wp_ifB_ne (inferInstance) (tgt := 63) dX10_charge_57 (by decide) (fun c7 => ?_) (fun c7 => ?_)
        · replace h := h.1 c7
          refine wp_aload_n 0 dX10_charge_63 rfl rfl ?_
          refine wp_getR dX10_charge_64 fl_RX10_10 rfl (sh9_K hS) (sh9_F_house hS) ?_
          refine wp_iload_n 1 dX10_charge_67 rfl rfl ?_
          refine wp_iload_n 2 dX10_charge_68 rfl rfl ?_
          obtain ⟨q8, o9, h⟩ := h
          refine wp_cvv dX10_charge_69 ck_RX10_124 (sh2_K (sh9_S_house hS)) (as := [.int x1, .int x2]) rfl rfl (Nat.le_of_ble_eq_true rfl) o9 (fun M10 o11 => ?_)
          replace h := h M10 o11
          refine wp_aload_n 0 dX10_charge_72 rfl rfl ?_
          refine wp_getR dX10_charge_73 fl_RX10_10 rfl (sh9_K hS) (sh9_F_house hS) ?_
          refine wp_getR dX10_charge_76 fl_RX10_117 rfl (sh2_K (sh9_S_house hS)) (sh2_F_furnace (sh9_S_house hS)) ?_
          refine wp_getI dX10_charge_79 fl_RX10_128 rfl (sh1_K (sh2_S_furnace (sh9_S_house hS))) ?_
          exact wn_iret dX10_charge_82 rfl h
        · replace h := h.2 c7
          refine wp_ldc dX10_charge_60 kc_RX10_111 ?_
          exact wn_iret dX10_charge_62 rfl h
      · replace h := h.2 c6
        refine wp_ldc dX10_charge_44 kc_RX10_116 ?_
        exact wn_iret dX10_charge_46 rfl h
    · replace h := h.2 c2
      refine wp_ldc dX10_charge_25 kc_RX10_67 ?_
      exact wn_iret dX10_charge_27 rfl h
theorem bX11_charge_0 {G : Gl} {d : Nat} {X : Sh} {M : Mm} {Q : Mm → Int32 → Prop} {a : Nat} {x1 : Int32} {x2 : Int32} (hS : Sh10 X a) (hd : 1 ≤ d) (h : ((¬ (0 ≤ x1 ∧ x1 ≤ mI M (a + 1) 0 - 1) → Q M (-1000000001)) ∧ (0 ≤ x1 ∧ x1 ≤ mI M (a + 1) 0 - 1 → ((1 ≤ x2 ∧ x2 ≤ 999 → (∃ j3 : Nat, ((20 + 5 * x1) + 3) = nI j3 ∧ j3 < 2950 ∧ ((x2 ≤ (mI M (a + 1) j3) → ((¬ ((mI M (a + 1) 1) = 24) → (∃ q8 : Mm → Prop, Cv G m_X11_comes d [.ref a, .int x1, .int x2] X M q8 ∧ ∀ M10, q8 M10 → Q M10 (mI M10 (a + 1) 1))) ∧ ((mI M (a + 1) 1) = 24 → Q M (-1000000003)))) ∧ (¬ (x2 ≤ (mI M (a + 1) j3)) → Q M (-1000000002))))) ∧ (¬ (1 ≤ x2 ∧ x2 ≤ 999) → Q M (-1000000001)))))) : Wn G m_X11_charge (d + 1) 0 [(0, .ref a), (1, .int x1), (2, .int x2)] [] X M Q := by
  refine wp_aload_n 0 dX11_charge_0 rfl rfl ?_
  refine wp_iload_n 1 dX11_charge_1 rfl rfl ?_
  refine wp_cvip dX11_charge_2 ck_RX11_102 (sh10_K hS) (as := [.int x1]) rfl rfl (Nat.le_of_ble_eq_true rfl) (cp_X11_isBin G d (by omega) X M a x1 hS) ?_
  refine wp_ifB_eq (inferInstance) (tgt := 20) dX11_charge_5 (by decide) (fun c1 => ?_) (fun c1 => ?_)
  · replace h := h.1 c1
    refine wp_ldc dX11_charge_20 kc_RX11_100 ?_
    exact wn_iret dX11_charge_22 rfl h
  · replace h := h.2 c1
    refine wp_iload_n 2 dX11_charge_8 rfl rfl ?_
    refine wp_i2l dX11_charge_9 ?_
    refine wp_lconst (v := 1) dX11_charge_10 rfl ?_
    refine wp_ldc2 dX11_charge_11 kc_RX11_109 ?_
    refine wp_csip dX11_charge_14 ck_RX11_78 rfl (as := [.long x2.toInt64, .long 1, .long 999]) rfl rfl (Nat.le_of_ble_eq_true rfl) (cp_X11_isIn G d X M x2 1 999 (by decide) (by decide)) ?_
    refine wp_ifB_ne (inferInstance) (tgt := 23) dX11_charge_17 (by decide) (fun c2 => ?_) (fun c2 => ?_)
    · replace h := h.1 c2
      refine wp_aload_n 0 dX11_charge_23 rfl rfl ?_
      refine wp_getR dX11_charge_24 fl_RX11_7 rfl (sh10_K hS) (sh10_F_s hS) ?_
      refine wp_aload_n 0 dX11_charge_27 rfl rfl ?_
      refine wp_iload_n 1 dX11_charge_28 rfl rfl ?_
      refine wp_cvip dX11_charge_29 ck_RX11_86 (sh10_K hS) (as := [.int x1]) rfl rfl (Nat.le_of_ble_eq_true rfl) (cp_X11_binAt G d X M a x1 hS) ?_
      refine wp_iconst (v := 3) dX11_charge_32 rfl ?_
      refine wp_iadd dX11_charge_33 ?_
      obtain ⟨j3, o4, o5, h⟩ := h
      refine wp_iald (n := 2950) dX11_charge_34 (sh10_K_s hS) (sh10_N_s hS) (by decide) o4 o5 ?_
      refine wp_iload_n 2 dX11_charge_35 rfl rfl ?_
      refine wp_icmp_ge (tgt := 42) dX11_charge_36 (by decide) (fun c6 => ?_) (fun c6 => ?_)
      · replace h := h.1 c6
        refine wp_aload_n 0 dX11_charge_42 rfl rfl ?_
        refine wp_getR dX11_charge_43 fl_RX11_7 rfl (sh10_K hS) (sh10_F_s hS) ?_
        refine wp_iconst (v := 1) dX11_charge_46 rfl ?_
        refine wp_iald (n := 2950) dX11_charge_47 (sh10_K_s hS) (sh10_N_s hS) (by decide) rfl (by decide) ?_
        refine wp_bipush (v := 24) dX11_charge_48 rfl ?_
        refine wp_icmp_ne (tgt := 56) dX11_charge_50 (by decide) (fun c7 => ?_) (fun c7 => ?_)
        · replace h := h.1 c7
          refine wp_aload_n 0 dX11_charge_56 rfl rfl ?_
          refine wp_iload_n 1 dX11_charge_57 rfl rfl ?_
          refine wp_iload_n 2 dX11_charge_58 rfl rfl ?_
          obtain ⟨q8, o9, h⟩ := h
          refine wp_cvv dX11_charge_59 ck_RX11_154 (sh10_K hS) (as := [.int x1, .int x2]) rfl rfl (Nat.le_of_ble_eq_true rfl) o9 (fun M10 o11 => ?_)
          replace h := h M10 o11
          refine wp_aload_n 0 dX11_charge_62 rfl rfl ?_
          refine wp_getR dX11_charge_63 fl_RX11_7 rfl (sh10_K hS) (sh10_F_s hS) ?_
          refine wp_iconst (v := 1) dX11_charge_66 rfl ?_
          refine wp_iald (n := 2950) dX11_charge_67 (sh10_K_s hS) (sh10_N_s hS) (by decide) rfl (by decide) ?_
          exact wn_iret dX11_charge_68 rfl h
        · replace h := h.2 c7
          refine wp_ldc dX11_charge_53 kc_RX11_101 ?_
          exact wn_iret dX11_charge_55 rfl h
      · replace h := h.2 c6
        refine wp_ldc dX11_charge_39 kc_RX11_153 ?_
        exact wn_iret dX11_charge_41 rfl h
    · replace h := h.2 c2
      refine wp_ldc dX11_charge_20 kc_RX11_100 ?_
      exact wn_iret dX11_charge_22 rfl h
theorem scm_1 {σ : Nat → Int32} {nl b : Nat} {t : Int32} : s_comes σ nl b t 1 = σ 1 + 1 := by
  unfold s_comes
  rw [ssl_o (by omega)]
  unfold s_lay
  rw [if_neg (by omega), if_neg (by omega), if_neg (by omega), if_neg (by omega), if_neg (by omega), if_neg (by omega), if_neg (by omega), if_pos rfl]
/-- a charge has come, in the house's whole -/
theorem HSx.comes {M M2 : Mm} {h nb nl nx nt nd b t : Nat} {σ : Nat → Int32} {la : Nat → Nat} (hs : HSx M h σ nb nl nx nt nd la) (hb : b < nb) (hnl : nl < 24) (h1 : 1 ≤ t) (ht : nI t ≤ σ (23 + 5 * b)) (ht9 : t ≤ 9999) (hB : BRep M2 (h + 1) (s_comes σ nl b (nI t)) nb) (hF : FR M2 (h + 8) (s_comes σ nl b (nI t)) (nl + 1) la) (hW : FW (s_comes σ nl b (nI t)) (nl + 1)) (hO : ∀ c, h ≤ c → c ≤ h + 85 → c ≠ h + 5 → c < h + 8 ∨ h + 61 < c → mI M2 c = mI M c) : HSx M2 h (s_comes σ nl b (nI t)) nb (nl + 1) nx nt nd la := by
  obtain ⟨hW0, _, _, hT, hD, hR⟩ := hs
  obtain ⟨w0, w1, w2, w3, w4, w5, w6, w7, w8, w9, wb, wf, wl, wt, wd, sl, g, s1, s2, s3, s4, s5⟩ := hW0
  have o : ∀ k, k ≠ 1 → k < 20 ∨ 50 ≤ k → k < 60 ∨ 300 ≤ k → s_comes σ nl b (nI t) k = σ k := fun k h1 h2 h3 => scm_o (by omega) hnl h1 h2 h3
  refine ⟨⟨by rw [o _ (by omega) (by omega) (by omega), w0], w1, by rw [scm_1, w2, nI_1], by omega, by rw [o _ (by omega) (by omega) (by omega), w4], w5, by rw [o _ (by omega) (by omega) (by omega), w6], w7, by rw [o _ (by omega) (by omega) (by omega), w8], w9, fun b2 hb2 => ?_, hW, fun l hl => ?_, fun k hk => ?_, fun i hi => ?_, sl, g, s1, ⟨s2.1, s2.2.cong (o 5 (by omega) (by omega) (by omega))⟩, s3, by rw [o _ (by omega) (by omega) (by omega), s4], by rw [o _ (by omega) (by omega) (by omega), s5]⟩, hB, hF, ?_, ?_, fun k hk => ?_⟩
  · obtain ⟨k, sh, v, s, hk, hsh, hv1, hv, hs9, e0, e1, e3, e4⟩ := wb b2 hb2
    have q0 := scm_b (σ := σ) (nl := nl) (b := b) (t := nI t) (i := b2) (k := 0) (by omega) (by omega) (by omega)
    have q1 := scm_b (σ := σ) (nl := nl) (b := b) (t := nI t) (i := b2) (k := 1) (by omega) (by omega) (by omega)
    have q4 := scm_b (σ := σ) (nl := nl) (b := b) (t := nI t) (i := b2) (k := 4) (by omega) (by omega) (by omega)
    by_cases e : b2 = b
    · subst e
      rw [e3] at ht
      have hts : t ≤ s := (nI_leI (by omega) (by omega)).mp ht
      exact ⟨k, sh, v, s - t, hk, hsh, hv1, hv, by omega, q0.trans e0, q1.trans e1, by rw [scm_t (by omega), e3, nI_subI _ _ hts], q4.trans e4⟩
    · have q3 := scm_b (σ := σ) (nl := nl) (b := b) (t := nI t) (i := b2) (k := 3) (by omega) (by omega) (by omega)
      exact ⟨k, sh, v, s, hk, hsh, hv1, hv, hs9, q0.trans e0, q1.trans e1, q3.trans e3, q4.trans e4⟩
  · unfold s_comes
    rw [ssl_o (by omega)]
    by_cases e : l = nl
    · subst e
      exact ⟨b, hb, sly_0⟩
    · rw [sly_at (by omega) (by omega) (by omega)]
      exact wl l (by omega)
  · rw [o _ (by omega) (by omega) (by omega)]
    exact wt k hk
  · rw [o _ (by omega) (by omega) (by omega)]
    exact wd i hi
  · exact (hT.cong (fun k hk => o k (by omega) (by omega) (by omega))).mem w5 (fun c h2 h3 => hO c (by omega) (by omega) (by omega) (by omega))
  · refine ⟨by rw [hO _ (by omega) (by omega) (by omega) (by omega)]; exact hD.1, fun i hi => ?_⟩
    rw [hO _ (by omega) (by omega) (by omega) (by omega), hO _ (by omega) (by omega) (by omega) (by omega), o _ (by omega) (by omega) (by omega), o _ (by omega) (by omega) (by omega)]
    exact hD.2 i hi
  · rw [hO _ (by omega) (by omega) (by omega) (by omega), o _ (by omega) (by omega) (by omega)]
    exact hR k hk
theorem case_charge (G : Gl) (d : Nat) (hd : 16 ≤ d) (X : Sh) (b m : Nat) (hS : Sh9 X b) (hM : Sh10 X m) (hbm : b + 266 ≤ m) (x1 x2 : Int32) : Case G d X b m m_X10_charge m_X11_charge [.int x1, .int x2] := by
  obtain ⟨d, rfl⟩ : ∃ d1, d = d1 + 1 := ⟨d - 1, by omega⟩
  intro M hs
  obtain ⟨⟨nb, nl, nx, nt, nd, la, hh⟩, hr⟩ := id hs
  obtain ⟨hW, hB, hF, hT, hD, hR⟩ := id hh
  obtain ⟨w0, w1, w2, w3, w4, w5, w6, w7, w8, w9, wb, wf, wl, wt, wd, sl, g, s1, s2, s3, s4, s5⟩ := id hW
  have d5 := hF.2.1.2.2.2.2.1
  by_cases h : 0 ≤ x1 ∧ x1 < nI nb
  · have h' : 0 ≤ x1 ∧ x1 < mI M (b + 1 + 1) 5 := by rw [hB.1]; exact h
    have h'' : 0 ≤ x1 ∧ x1 ≤ mI M (m + 1) 0 - 1 := by rw [w0, has_iff (by omega)]; exact h
    by_cases h2 : 1 ≤ x2 ∧ x2 ≤ 999
    · obtain ⟨i, hi, rfl⟩ := ix_of (by omega) h.1 h.2
      obtain ⟨t, ht, rfl⟩ := ix_le (nb := 999) (by omega) (Int32.le_trans (by decide) h2.1) h2.2
      have ht1 : 1 ≤ t := (nI_leI (a := 1) (by omega) (by omega)).mp h2.1
      obtain ⟨b0, b1, b2, b3, b4⟩ := hB.2.2.1 i hi
      have b3' : mI M (b + 1 + 1 + 4) i = mI M (m + 1) (23 + 5 * i) := b3
      by_cases h3 : nI t ≤ mI M (m + 1) (23 + 5 * i)
      · by_cases h4 : nl < 24
        · have l24 : mI M (b + 1 + 8) 5 < 24 := by
            rw [d5]
            exact (nI_ltI (b := 24) (by omega) (by omega)).mpr h4
          have n24 : ¬ mI M (m + 1) 1 = 24 := fun q => by
            rw [w2] at q
            have := (nI_inj (b := 24) (by omega) (by omega)).mp q
            omega
          refine Cn.of (by decide) (Nat.le_of_ble_eq_true rfl) (bX10_charge_0 hS ⟨fun q => absurd h' q, fun _ => ⟨fun _ => ⟨i, rfl, by omega, fun _ => ⟨fun _ => ⟨_, cp_X2_chargeOut G d (by omega) X M (b + 1) i nb nl t (mI M (m + 1)) la (sh9_S_house hS) w1 hi h4 ht1 (by omega) hB hF wf (wb i hi) (hR 0 (by omega)) (by rw [s4]; exact nI_pos' (by omega)), ?_⟩, fun q => absurd l24 q⟩, fun q => absurd (by rw [b3']; exact h3) q⟩, fun q => absurd h2 q⟩⟩)
          rintro M10 ⟨B10, F10, W10, O10⟩
          have s10 : mI M10 (m + 1) = mI M (m + 1) := O10.1 _ (by omega) (by omega)
          refine Cn.of (by decide) (Nat.le_of_ble_eq_true rfl) (bX11_charge_0 hM (by omega) ⟨fun q => absurd (by rw [s10]; exact h'') q, fun _ => ⟨fun _ => ⟨23 + 5 * i, (by first | rfl | (simp only [n_lit, nI_add, pk_mul]; done) | (simp only [n_lit, nI_add, pk_mul]; exact congrArg nI (by omega))), by omega, fun _ => ⟨fun _ => ⟨_, cp_X11_comes G d (by omega) X M10 m i nl (nI t) hM (by omega) h4 (by rw [s10]; exact w2), ?_⟩, fun q => absurd (by rw [s10] at q; exact q) n24⟩, fun q => absurd (by rw [s10]; exact h3) q⟩, fun q => absurd h2 q⟩⟩)
          rintro M11 ⟨e11, k11⟩
          rw [s10] at e11
          have m11 : ∀ c, c < m → mI M11 c = mI M10 c := fun c hc => k11.1 c (by omega) (by omega) (by omega) (by omega)
          refine ⟨?_, ⟨nb, nl + 1, nx, nt, nd, la, ?_⟩, hr.mem (fun c hc => ?_) ?_ ?_ ?_ ?_ ?_ ?_ ?_ ?_⟩
          · rw [e11, scm_1, w2, nI_1]
            exact F10.2.1.2.2.2.2.1
          · rw [e11]
            refine hh.comes hi h4 ht1 h3 (by omega) (B10.mem (fun c h5 h6 => m11 c (by omega))) (F10.mem (by omega) (fun c h5 h6 => m11 c (by omega)) (by rw [k11.2])) W10 (fun c h5 h6 h7 h8 => by rw [m11 c (by omega), O10.1 c h7 h8])
          · unfold RestK at hc
            rw [k11.1 c (by omega) (by omega) (by omega) (by omega), O10.1 c (by omega) (by omega)]
          · rw [m11 _ (by omega), O10.1 _ (by omega) (by omega)]
          · rw [m11 _ (by omega), O10.1 _ (by omega) (by omega)]
          · rw [m11 _ (by omega), O10.1 _ (by omega) (by omega)]
          · rw [k11.1 _ (by omega) (by omega) (by omega) (by omega), O10.1 _ (by omega) (by omega)]
          · rw [k11.1 _ (by omega) (by omega) (by omega) (by omega), O10.1 _ (by omega) (by omega)]
          · rw [k11.1 _ (by omega) (by omega) (by omega) (by omega), O10.1 _ (by omega) (by omega)]
          · rw [k11.2, O10.2]
          · obtain ⟨la2, p⟩ := hr.2.1.2
            exact ⟨la2, p.mR (by rw [k11.2, O10.2])⟩
        · have l24 : ¬ mI M (b + 1 + 8) 5 < 24 := fun q => by
            rw [d5] at q
            exact h4 ((nI_ltI (b := 24) (by omega) (by omega)).mp q)
          have n24 : mI M (m + 1) 1 = 24 := by
            rw [w2]
            exact congrArg nI (show nl = 24 by omega)
          exact Cn.of (by decide) (Nat.le_of_ble_eq_true rfl) (bX10_charge_0 hS ⟨fun q => absurd h' q, fun _ => ⟨fun _ => ⟨i, rfl, by omega, fun _ => ⟨fun q => absurd q l24, fun _ => Cn.of (by decide) (Nat.le_of_ble_eq_true rfl) (bX11_charge_0 hM (by omega) ⟨fun q => absurd h'' q, fun _ => ⟨fun _ => ⟨23 + 5 * i, (by first | rfl | (simp only [n_lit, nI_add, pk_mul]; done) | (simp only [n_lit, nI_add, pk_mul]; exact congrArg nI (by omega))), by omega, fun _ => ⟨fun q => absurd n24 q, fun _ => ⟨rfl, hs⟩⟩, fun q => absurd h3 q⟩, fun q => absurd h2 q⟩⟩)⟩, fun q => absurd (by rw [b3']; exact h3) q⟩, fun q => absurd h2 q⟩⟩)
      · exact Cn.of (by decide) (Nat.le_of_ble_eq_true rfl) (bX10_charge_0 hS ⟨fun q => absurd h' q, fun _ => ⟨fun _ => ⟨i, rfl, by omega, fun q => absurd (by rw [b3'] at q; exact q) h3, fun _ => Cn.of (by decide) (Nat.le_of_ble_eq_true rfl) (bX11_charge_0 hM (by omega) ⟨fun q => absurd h'' q, fun _ => ⟨fun _ => ⟨23 + 5 * i, (by first | rfl | (simp only [n_lit, nI_add, pk_mul]; done) | (simp only [n_lit, nI_add, pk_mul]; exact congrArg nI (by omega))), by omega, fun q => absurd q h3, fun _ => ⟨rfl, hs⟩⟩, fun q => absurd h2 q⟩⟩)⟩, fun q => absurd h2 q⟩⟩)
    · exact Cn.of (by decide) (Nat.le_of_ble_eq_true rfl) (bX10_charge_0 hS ⟨fun q => absurd h' q, fun _ => ⟨fun q => absurd q h2, fun _ => Cn.of (by decide) (Nat.le_of_ble_eq_true rfl) (bX11_charge_0 hM (by omega) ⟨fun q => absurd h'' q, fun _ => ⟨fun q => absurd q h2, fun _ => ⟨rfl, hs⟩⟩⟩)⟩⟩)
  · have h' : ¬ (0 ≤ x1 ∧ x1 < mI M (b + 1 + 1) 5) := by rw [hB.1]; exact h
    have h'' : ¬ (0 ≤ x1 ∧ x1 ≤ mI M (m + 1) 0 - 1) := by rw [w0, has_iff (by omega)]; exact h
    exact Cn.of (by decide) (Nat.le_of_ble_eq_true rfl) (bX10_charge_0 hS ⟨fun _ => Cn.of (by decide) (Nat.le_of_ble_eq_true rfl) (bX11_charge_0 hM (by omega) ⟨fun _ => ⟨rfl, hs⟩, fun q => absurd q h''⟩), fun q => absurd q h'⟩)
