/-! calls that change the house or the object: rule, clear, choose, ladle, bin, trim, tell -/
/-- the house against a row that says other counts, choices, ladles or rules -/
theorem HSx.small {M M2 : Mm} {h nb nl nx nt nd nt2 nd2 : Nat} {σ τ : Nat → Int32} {la : Nat → Nat} (hs : HSx M h σ nb nl nx nt nd la) (e : ∀ k, k < 3 ∨ k = 5 ∨ (9 ≤ k ∧ k < 310) ∨ 340 ≤ k → τ k = σ k) (t3 : τ 3 = nI nt2) (t3' : nt2 ≤ 3) (t4 : τ 4 = nI nd2) (t4' : nd2 ≤ 6) (tt : ∀ k, k < nt2 → ∃ b, b < nb ∧ τ (310 + k) = nI b) (td : ∀ i, i < nd2 → ∃ c, 1 ≤ c ∧ c ≤ 999 ∧ τ (320 + 2 * i) = nI c) (ts : ∃ sl g, 1 ≤ sl ∧ (sl ≤ 999 ∧ HIn σ) ∧ g ≤ 999 ∧ τ 6 = nI sl ∧ τ 7 = nI g)
    (m7 : mI M2 (h + 1) 7 = τ 3) (m5 : mI M2 (h + 1) 5 = mI M (h + 1) 5) (mt : ∀ k, k < 3 → mI M2 (h + 7) k = τ (310 + k)) (mD : DRep M2 (h + 82) τ nd2) (mr : ∀ k, k < 3 → mI M2 (h + 85) k = τ (6 + k)) (eM : ∀ c, h + 2 ≤ c → c ≤ h + 79 → c ≠ h + 7 → mI M2 c = mI M c) (eR : mR M2 (h + 9) = mR M (h + 9)) : HSx M2 h τ nb nl nx nt2 nd2 la := by
  obtain ⟨hW, hB, hF, hT, hD, hR⟩ := hs
  obtain ⟨w0, w1, w2, w3, w4, w5, w6, w7, w8, w9, wb, wf, wl, wt, wd, _⟩ := hW
  obtain ⟨sl, g, s1, s2, s3, s4, s5⟩ := ts
  refine ⟨⟨by rw [e _ (by omega), w0], w1, by rw [e _ (by omega), w2], w3, by rw [e _ (by omega), w4], w5, t3, t3', t4, t4', fun b hb => ?_, wf.cong w3 (fun k hk => e k (by unfold Fk at hk; omega)), fun l hl => by rw [e _ (by omega)]; exact wl l hl, tt, td, sl, g, s1, ⟨s2.1, s2.2.cong (e 5 (by omega))⟩, s3, s4, s5⟩, ⟨by rw [m5, hB.1], m7, fun i hi => ?_, mt⟩, (hF.cong wf w3 (fun k hk => e k (by unfold Fk at hk; omega))).mem w3 (fun c h1 h2 => eM c (by omega) (by omega) (by omega)) eR, (hT.cong (fun k hk => e k (by omega))).mem w5 (fun c h1 h2 => eM c (by omega) (by omega) (by omega)), mD, mr⟩
  · obtain ⟨k, sh, v, s, hk, hsh, hv1, hv, hs9, e0, e1, e3, e4⟩ := wb b hb
    exact ⟨k, sh, v, s, hk, hsh, hv1, hv, hs9, by rw [e _ (by omega), e0], by rw [e _ (by omega), e1], by rw [e _ (by omega), e3], by rw [e _ (by omega), e4]⟩
  · rw [eM _ (by omega) (by omega) (by omega), eM _ (by omega) (by omega) (by omega), eM _ (by omega) (by omega) (by omega), eM _ (by omega) (by omega) (by omega), eM _ (by omega) (by omega) (by omega), e _ (by omega), e _ (by omega), e _ (by omega), e _ (by omega), e _ (by omega)]
    exact hB.2.2.1 i hi
theorem bX10_rule_0 {G : Gl} {d : Nat} {X : Sh} {M : Mm} {Q : Mm → Int32 → Prop} {a : Nat} {x1 : Int32} {x2 : Int32} (hS : Sh9 X a) (h : ((¬ (0 ≤ x1 ∧ x1 ≤ 2) → Q M (-1000000001)) ∧ (0 ≤ x1 ∧ x1 ≤ 2 → (((if ¬ (x1 = 1) then 1 else 0) ≤ x2 ∧ x2 ≤ 999 → (∃ j5 : Nat, x1 = nI j5 ∧ j5 < 3 ∧ (∀ v8 : Int32, v8 = (mI M ((a + 1) + 85) j5) → (∀ M9 : Mm, M9 = sI M ((a + 1) + 85) j5 x2 → Q M9 v8)))) ∧ (¬ ((if ¬ (x1 = 1) then 1 else 0) ≤ x2 ∧ x2 ≤ 999) → Q M (-1000000001)))))) : Wn G m_X10_rule (d + 1) 0 [(0, .ref a), (1, .int x1), (2, .int x2)] [] X M Q := by
  refine wp_iload_n 1 dX10_rule_0 rfl rfl ?_
  refine wp_iconst (v := 0) dX10_rule_1 rfl ?_
  refine wp_iconst (v := 2) dX10_rule_2 rfl ?_
  refine wp_csip dX10_rule_3 ck_RX10_63 rfl (as := [.int x1, .int 0, .int 2]) rfl rfl (Nat.le_of_ble_eq_true rfl) (cp_X10_isWithin G d X M x1 0 2) ?_
  refine wp_ifB_eq (inferInstance) (tgt := 29) dX10_rule_6 (by decide) (fun c1 => ?_) (fun c1 => ?_)
  · replace h := h.1 c1
    refine wp_ldc dX10_rule_29 kc_RX10_67 ?_
    exact wn_iret dX10_rule_31 rfl h
  · replace h := h.2 c1
    refine wp_iload_n 2 dX10_rule_9 rfl rfl ?_
    refine wp_iload_n 1 dX10_rule_10 rfl rfl ?_
    refine wp_iconst (v := 1) dX10_rule_11 rfl ?_
    have K3 : Wp G m_X10_rule (d + 1) 0 0 0 0 20 [(0, .ref a), (1, .int x1), (2, .int x2)] [.int (if ¬ (x1 = 1) then 1 else 0), .int x2] X M (fun X2 M2 v => X2 = X ∧ ∃ x, v = some (.int x) ∧ Q M2 x) := by
      refine wp_sipush (v := 999) dX10_rule_20 rfl ?_
      refine wp_csip dX10_rule_23 ck_RX10_63 rfl (as := [.int x2, .int (if ¬ (x1 = 1) then 1 else 0), .int 999]) rfl rfl (Nat.le_of_ble_eq_true rfl) (cp_X10_isWithin G d X M x2 (if ¬ (x1 = 1) then 1 else 0) 999) ?_
      refine wp_ifB_ne (inferInstance) (tgt := 32) dX10_rule_26 (by decide) (fun c4 => ?_) (fun c4 => ?_)
      · replace h := h.1 c4
        refine wp_aload_n 0 dX10_rule_32 rfl rfl ?_
        refine wp_getR dX10_rule_33 fl_RX10_10 rfl (sh9_K hS) (sh9_F_house hS) ?_
        refine wp_getR dX10_rule_36 fl_RX10_113 rfl (sh2_K (sh9_S_house hS)) (sh2_F_rules (sh9_S_house hS)) ?_
        refine wp_iload_n 1 dX10_rule_39 rfl rfl ?_
        obtain ⟨j5, o6, o7, h⟩ := h
        refine wp_iald (n := 3) dX10_rule_40 (sh2_K_rules (sh9_S_house hS)) (sh2_N_rules (sh9_S_house hS)) (by decide) o6 o7 ?_
        refine wp_topi (fun v8 ev8 => ?_)
        replace h := h v8 ev8
        refine wp_istore_n (lo2 := [(3, .int _), (0, .ref _), (1, .int _), (2, .int _)]) dX10_rule_41 rfl (by decide) rfl ?_
        refine wp_aload_n 1 dX10_rule_42 rfl rfl ?_
        refine wp_getR dX10_rule_43 fl_RX10_10 rfl (sh9_K hS) (sh9_F_house hS) ?_
        refine wp_getR dX10_rule_46 fl_RX10_113 rfl (sh2_K (sh9_S_house hS)) (sh2_F_rules (sh9_S_house hS)) ?_
        refine wp_iload_n 2 dX10_rule_49 rfl rfl ?_
        refine wp_iload_n 3 dX10_rule_50 rfl rfl ?_
        refine wp_iast (n := 3) dX10_rule_51 (sh2_K_rules (sh9_S_house hS)) (sh2_N_rules (sh9_S_house hS)) (by decide) o6 o7 ?_
        refine wp_nm (fun M9 eM9 => ?_)
        replace h := h M9 eM9
        refine wp_iload_n 0 dX10_rule_52 rfl rfl ?_
        exact wn_iret dX10_rule_53 rfl h
      · replace h := h.2 c4
        refine wp_ldc dX10_rule_29 kc_RX10_67 ?_
        exact wn_iret dX10_rule_31 rfl h
    refine wp_icmp_ne (tgt := 19) dX10_rule_12 (by decide) (fun c2 => ?_) (fun c2 => ?_)
    · refine wp_iconst (v := 1) dX10_rule_19 rfl ?_
      rw [if_pos c2] at K3
      exact K3
    · refine wp_iconst (v := 0) dX10_rule_15 rfl ?_
      refine wp_goto (tgt := 20) dX10_rule_16 (by decide) ?_
      rw [if_neg (fun q => q c2)] at K3
      exact K3
theorem bX11_rule_0 {G : Gl} {d : Nat} {X : Sh} {M : Mm} {Q : Mm → Int32 → Prop} {a : Nat} {x1 : Int32} {x2 : Int32} (hS : Sh10 X a) (h : ((¬ (0 ≤ x1 ∧ x1 ≤ 2) → Q M (-1000000001)) ∧ (0 ≤ x1 ∧ x1 ≤ 2 → ((¬ (x1 = 1) → ((¬ (1 ≤ x2 ∧ x2 ≤ 999) → Q M (-1000000001)) ∧ (1 ≤ x2 ∧ x2 ≤ 999 → (∃ q4 : Mm → Int32 → Prop, Cn G m_X11_becomes d [.ref a, .int ((6 + x1)), .int x2] X M q4 ∧ ∀ M6 r7, q4 M6 r7 → Q M6 r7)))) ∧ (x1 = 1 → ((¬ (0 ≤ x2 ∧ x2 ≤ 999) → Q M (-1000000001)) ∧ (0 ≤ x2 ∧ x2 ≤ 999 → (∃ q10 : Mm → Int32 → Prop, Cn G m_X11_becomes d [.ref a, .int ((6 + x1)), .int x2] X M q10 ∧ ∀ M12 r13, q10 M12 r13 → Q M12 r13)))))))) : Wn G m_X11_rule (d + 1) 0 [(0, .ref a), (1, .int x1), (2, .int x2)] [] X M Q := by
  refine wp_iload_n 1 dX11_rule_0 rfl rfl ?_
  refine wp_i2l dX11_rule_1 ?_
  refine wp_lconst (v := 0) dX11_rule_2 rfl ?_
  refine wp_ldc2 dX11_rule_3 kc_RX11_130 ?_
  refine wp_csip dX11_rule_6 ck_RX11_78 rfl (as := [.long x1.toInt64, .long 0, .long 2]) rfl rfl (Nat.le_of_ble_eq_true rfl) (cp_X11_isIn G d X M x1 0 2 (by decide) (by decide)) ?_
  refine wp_ifB_eq (inferInstance) (tgt := 45) dX11_rule_9 (by decide) (fun c1 => ?_) (fun c1 => ?_)
  · replace h := h.1 c1
    refine wp_ldc dX11_rule_45 kc_RX11_100 ?_
    exact wn_iret dX11_rule_47 rfl h
  · replace h := h.2 c1
    refine wp_iload_n 2 dX11_rule_12 rfl rfl ?_
    refine wp_i2l dX11_rule_13 ?_
    refine wp_iload_n 1 dX11_rule_14 rfl rfl ?_
    refine wp_iconst (v := 1) dX11_rule_15 rfl ?_
    refine wp_icmp_ne (tgt := 23) dX11_rule_16 (by decide) (fun c2 => ?_) (fun c2 => ?_)
    · replace h := h.1 c2
      refine wp_lconst (v := 1) dX11_rule_23 rfl ?_
      refine wp_ldc2 dX11_rule_24 kc_RX11_109 ?_
      refine wp_csip dX11_rule_27 ck_RX11_78 rfl (as := [.long x2.toInt64, .long 1, .long 999]) rfl rfl (Nat.le_of_ble_eq_true rfl) (cp_X11_isIn G d X M x2 1 999 (by decide) (by decide)) ?_
      refine wp_ifB_eq (inferInstance) (tgt := 45) dX11_rule_30 (by decide) (fun c3 => ?_) (fun c3 => ?_)
      · replace h := h.1 c3
        refine wp_ldc dX11_rule_45 kc_RX11_100 ?_
        exact wn_iret dX11_rule_47 rfl h
      · replace h := h.2 c3
        refine wp_aload_n 0 dX11_rule_33 rfl rfl ?_
        refine wp_bipush (v := 6) dX11_rule_34 rfl ?_
        refine wp_iload_n 1 dX11_rule_36 rfl rfl ?_
        refine wp_iadd dX11_rule_37 ?_
        refine wp_iload_n 2 dX11_rule_38 rfl rfl ?_
        obtain ⟨q4, o5, h⟩ := h
        refine wp_cvi dX11_rule_39 ck_RX11_127 (sh10_K hS) (as := [.int ((6 + x1)), .int x2]) rfl rfl (Nat.le_of_ble_eq_true rfl) o5 (fun M6 r7 o8 => ?_)
        replace h := h M6 r7 o8
        refine wp_goto (tgt := 47) dX11_rule_42 (by decide) ?_
        exact wn_iret dX11_rule_47 rfl h
    · replace h := h.2 c2
      refine wp_lconst (v := 0) dX11_rule_19 rfl ?_
      refine wp_goto (tgt := 24) dX11_rule_20 (by decide) ?_
      refine wp_ldc2 dX11_rule_24 kc_RX11_109 ?_
      refine wp_csip dX11_rule_27 ck_RX11_78 rfl (as := [.long x2.toInt64, .long 0, .long 999]) rfl rfl (Nat.le_of_ble_eq_true rfl) (cp_X11_isIn G d X M x2 0 999 (by decide) (by decide)) ?_
      refine wp_ifB_eq (inferInstance) (tgt := 45) dX11_rule_30 (by decide) (fun c9 => ?_) (fun c9 => ?_)
      · replace h := h.1 c9
        refine wp_ldc dX11_rule_45 kc_RX11_100 ?_
        exact wn_iret dX11_rule_47 rfl h
      · replace h := h.2 c9
        refine wp_aload_n 0 dX11_rule_33 rfl rfl ?_
        refine wp_bipush (v := 6) dX11_rule_34 rfl ?_
        refine wp_iload_n 1 dX11_rule_36 rfl rfl ?_
        refine wp_iadd dX11_rule_37 ?_
        refine wp_iload_n 2 dX11_rule_38 rfl rfl ?_
        obtain ⟨q10, o11, h⟩ := h
        refine wp_cvi dX11_rule_39 ck_RX11_127 (sh10_K hS) (as := [.int ((6 + x1)), .int x2]) rfl rfl (Nat.le_of_ble_eq_true rfl) o11 (fun M12 r13 o14 => ?_)
        replace h := h M12 r13 o14
        refine wp_goto (tgt := 47) dX11_rule_42 (by decide) ?_
        exact wn_iret dX11_rule_47 rfl h
theorem case_rule (G : Gl) (d : Nat) (hd : 16 ≤ d) (X : Sh) (b m : Nat) (hS : Sh9 X b) (hM : Sh10 X m) (hbm : b + 266 ≤ m) (x1 x2 : Int32) : Case G d X b m m_X10_rule m_X11_rule [.int x1, .int x2] := by
  obtain ⟨d, rfl⟩ : ∃ d1, d = d1 + 1 := ⟨d - 1, by omega⟩
  intro M hs
  obtain ⟨⟨nb, nl, nx, nt, nd, la, hh⟩, hr⟩ := id hs
  obtain ⟨hW, hB, hF, hT, hD, hR⟩ := id hh
  obtain ⟨w0, w1, w2, w3, w4, w5, w6, w7, w8, w9, wb, wf, wl, wt, wd, sl, g, s1, s2, s3, s4, s5⟩ := id hW
  by_cases h : 0 ≤ x1 ∧ x1 ≤ 2
  · obtain ⟨i, hi, rfl⟩ := ix_le (nb := 2) (by omega) h.1 h.2
    have i1 : nI i = 1 ↔ i = 1 := nI_inj (b := 1) (by omega) (by omega)
    by_cases h2 : (if ¬ (nI i = 1) then 1 else 0) ≤ x2 ∧ x2 ≤ 999
    · have h20 : 0 ≤ x2 := by
        refine Int32.le_trans ?_ h2.1
        split <;> decide
      obtain ⟨v, hv, rfl⟩ := ix_le (nb := 999) (by omega) h20 h2.2
      have hv1 : ¬ i = 1 → 1 ≤ v := fun q => by
        have h3 := h2.1
        rw [if_pos (fun r => q (i1.mp r))] at h3
        exact (nI_leI (a := 1) (by omega) (by omega)).mp h3
      refine Cn.of (by decide) (Nat.le_of_ble_eq_true rfl) (bX10_rule_0 hS ⟨fun q => absurd h q, fun _ => ⟨fun _ => ⟨i, rfl, by omega, ?_⟩, fun q => absurd h2 q⟩⟩)
      intro v8 e8 M9 e9
      have m9 : ∀ c, c ≠ b + 1 + 85 → mI M9 c = mI M c := fun c hc => by rw [e9, mI_sI, up2_off _ _ _ hc]
      have s9 : mI M9 (m + 1) = mI M (m + 1) := m9 _ (by omega)
      have ix : (6 + nI i : Int32) = nI (6 + i) := (by first | rfl | (simp only [n_lit, nI_add, pk_mul]; done) | (simp only [n_lit, nI_add, pk_mul]; exact congrArg nI (by omega)))
      have fin : ∀ M6 r7, M6 = sI M9 (m + 1) (6 + i) (nI v) ∧ r7 = mI M9 (m + 1) (6 + i) → v8 = r7 ∧ Sim M6 b m := by
        rintro M6 r7 ⟨e6, e7⟩
        have m6 : ∀ c, c ≠ m + 1 → mI M6 c = mI M9 c := fun c hc => by rw [e6, mI_sI, up2_off _ _ _ hc]
        have s6 : mI M6 (m + 1) = upd (mI M (m + 1)) (6 + i) (nI v) := by rw [e6, mI_sI, up2_row, s9]
        have R6 : mR M6 = mR M := by
          rw [e6, e9]
          rfl
        refine ⟨by rw [e8, e7, s9, hR i (by omega)], ⟨nb, nl, nx, nt, nd, la, ?_⟩, hr.house hbm (fun c h4 h5 => by rw [m6 _ h5, m9 _ (by omega)]) (fun c _ => by rw [R6])⟩
        rw [s6]
        refine hh.small (fun k hk => upd_ne (by omega)) (by rw [upd_ne (by omega), w6]) w7 (by rw [upd_ne (by omega), w8]) w9 (fun k hk => by rw [upd_ne (by omega)]; exact wt k hk) (fun k hk => by rw [upd_ne (by omega)]; exact wd k hk) ?_ (by rw [m6 _ (by omega), m9 _ (by omega), upd_ne (by omega)]; exact hB.2.1) (by rw [m6 _ (by omega), m9 _ (by omega)]) (fun k hk => by rw [m6 _ (by omega), m9 _ (by omega), upd_ne (by omega)]; exact hB.2.2.2 k hk) ?_ (fun k hk => ?_) (fun c h4 h5 h6 => by rw [m6 _ (by omega), m9 _ (by omega)]) (by rw [R6])
        · by_cases e0 : i = 0
          · subst e0
            exact ⟨v, g, hv1 (by omega), ⟨hv, s2.2⟩, s3, upd_eq, by rw [upd_ne (by omega), s5]⟩
          · by_cases e1 : i = 1
            · subst e1
              exact ⟨sl, v, s1, s2, hv, by rw [upd_ne (by omega), s4], upd_eq⟩
            · exact ⟨sl, g, s1, s2, s3, by rw [upd_ne (by omega), s4], by rw [upd_ne (by omega), s5]⟩
        · refine ⟨by rw [m6 _ (by omega), m9 _ (by omega)]; exact hD.1, fun k hk => ?_⟩
          rw [m6 _ (by omega), m6 _ (by omega), m9 _ (by omega), m9 _ (by omega), upd_ne (by omega), upd_ne (by omega)]
          exact hD.2 k hk
        · rw [m6 _ (by omega), e9, mI_sI, up2_row]
          by_cases e0 : k = i
          · subst e0
            rw [upd_eq, upd_eq]
          · rw [upd_ne e0, upd_ne (by omega)]
            exact hR k hk
      by_cases e1 : i = 1
      · have q1 := i1.mpr e1
        have h2' : 0 ≤ nI v ∧ nI v ≤ 999 := ⟨h20, h2.2⟩
        exact Cn.of (by decide) (Nat.le_of_ble_eq_true rfl) (bX11_rule_0 hM ⟨fun q => absurd h q, fun _ => ⟨fun q => absurd q1 q, fun _ => ⟨fun q => absurd h2' q, fun _ => ⟨_, by rw [ix]; exact cp_X11_becomes G d X M9 m (6 + i) (nI v) hM (by omega), fin⟩⟩⟩⟩)
      · have q1 : ¬ nI i = 1 := fun q => e1 (i1.mp q)
        have h2' : 1 ≤ nI v ∧ nI v ≤ 999 := ⟨(nI_leI (a := 1) (by omega) (by omega)).mpr (hv1 e1), h2.2⟩
        exact Cn.of (by decide) (Nat.le_of_ble_eq_true rfl) (bX11_rule_0 hM ⟨fun q => absurd h q, fun _ => ⟨fun _ => ⟨fun q => absurd h2' q, fun _ => ⟨_, by rw [ix]; exact cp_X11_becomes G d X M9 m (6 + i) (nI v) hM (by omega), fin⟩⟩, fun q => absurd q q1⟩⟩)
    · refine Cn.of (by decide) (Nat.le_of_ble_eq_true rfl) (bX10_rule_0 hS ⟨fun q => absurd h q, fun _ => ⟨fun q => absurd q h2, fun _ => ?_⟩⟩)
      by_cases e1 : nI i = 1
      · rw [if_neg (fun q => q e1)] at h2
        exact Cn.of (by decide) (Nat.le_of_ble_eq_true rfl) (bX11_rule_0 hM ⟨fun q => absurd h q, fun _ => ⟨fun q => absurd e1 q, fun _ => ⟨fun _ => ⟨rfl, hs⟩, fun q => absurd q h2⟩⟩⟩)
      · rw [if_pos e1] at h2
        exact Cn.of (by decide) (Nat.le_of_ble_eq_true rfl) (bX11_rule_0 hM ⟨fun q => absurd h q, fun _ => ⟨fun _ => ⟨fun _ => ⟨rfl, hs⟩, fun q => absurd q h2⟩, fun q => absurd q e1⟩⟩)
  · exact Cn.of (by decide) (Nat.le_of_ble_eq_true rfl) (bX10_rule_0 hS ⟨fun _ => Cn.of (by decide) (Nat.le_of_ble_eq_true rfl) (bX11_rule_0 hM ⟨fun _ => ⟨rfl, hs⟩, fun q => absurd q h⟩), fun q => absurd q h⟩)
theorem bX10_clear_0 {G : Gl} {d : Nat} {X : Sh} {M : Mm} {Q : Mm → Int32 → Prop} {a : Nat} (hS : Sh9 X a) (h : (∀ v1 : Int32, v1 = (mI M ((a + 1) + 1) 7) → (∀ M2 : Mm, M2 = sI M ((a + 1) + 1) 7 0 → Q M2 v1))) : Wn G m_X10_clear d 0 [(0, .ref a)] [] X M Q := by
  refine wp_aload_n 0 dX10_clear_0 rfl rfl ?_
  refine wp_getR dX10_clear_1 fl_RX10_10 rfl (sh9_K hS) (sh9_F_house hS) ?_
  refine wp_getR dX10_clear_4 fl_RX10_68 rfl (sh2_K (sh9_S_house hS)) (sh2_F_bins (sh9_S_house hS)) ?_
  refine wp_getI dX10_clear_7 fl_RX10_237 rfl (sh0_K (sh2_S_bins (sh9_S_house hS))) ?_
  refine wp_topi (fun v1 ev1 => ?_)
  replace h := h v1 ev1
  refine wp_istore_n (lo2 := [(1, .int _), (0, .ref _)]) dX10_clear_10 rfl (by decide) rfl ?_
  refine wp_aload_n 1 dX10_clear_11 rfl rfl ?_
  refine wp_getR dX10_clear_12 fl_RX10_10 rfl (sh9_K hS) (sh9_F_house hS) ?_
  refine wp_getR dX10_clear_15 fl_RX10_68 rfl (sh2_K (sh9_S_house hS)) (sh2_F_bins (sh9_S_house hS)) ?_
  refine wp_iconst (v := 0) dX10_clear_18 rfl ?_
  refine wp_putI dX10_clear_19 fp_RX10_237 rfl (sh0_K (sh2_S_bins (sh9_S_house hS))) ?_
  refine wp_nm (fun M2 eM2 => ?_)
  replace h := h M2 eM2
  refine wp_iload_n 0 dX10_clear_22 rfl rfl ?_
  exact wn_iret dX10_clear_23 rfl h
theorem bX11_clear_0 {G : Gl} {d : Nat} {X : Sh} {M : Mm} {Q : Mm → Int32 → Prop} {a : Nat} (hS : Sh10 X a) (h : (∃ q1 : Mm → Int32 → Prop, Cn G m_X11_becomes d [.ref a, .int 3, .int 0] X M q1 ∧ ∀ M3 r4, q1 M3 r4 → Q M3 r4)) : Wn G m_X11_clear (d + 1) 0 [(0, .ref a)] [] X M Q := by
  refine wp_aload_n 0 dX11_clear_0 rfl rfl ?_
  refine wp_iconst (v := 3) dX11_clear_1 rfl ?_
  refine wp_iconst (v := 0) dX11_clear_2 rfl ?_
  obtain ⟨q1, o2, h⟩ := h
  refine wp_cvi dX11_clear_3 ck_RX11_127 (sh10_K hS) (as := [.int 3, .int 0]) rfl rfl (Nat.le_of_ble_eq_true rfl) o2 (fun M3 r4 o5 => ?_)
  replace h := h M3 r4 o5
  exact wn_iret dX11_clear_6 rfl h
theorem case_clear (G : Gl) (d : Nat) (hd : 16 ≤ d) (X : Sh) (b m : Nat) (hS : Sh9 X b) (hM : Sh10 X m) (hbm : b + 266 ≤ m) : Case G d X b m m_X10_clear m_X11_clear [] := by
  obtain ⟨d, rfl⟩ : ∃ d1, d = d1 + 1 := ⟨d - 1, by omega⟩
  intro M hs
  obtain ⟨⟨nb, nl, nx, nt, nd, la, hh⟩, hr⟩ := id hs
  obtain ⟨hW, hB, hF, hT, hD, hR⟩ := id hh
  obtain ⟨w0, w1, w2, w3, w4, w5, w6, w7, w8, w9, wb, wf, wl, wt, wd, ws⟩ := id hW
  refine Cn.of (by decide) (Nat.le_of_ble_eq_true rfl) (bX10_clear_0 hS ?_)
  intro v1 e1 M2 e2
  have m2 : ∀ c, c ≠ b + 1 + 1 → mI M2 c = mI M c := fun c hc => by rw [e2, mI_sI, up2_off _ _ _ hc]
  have s2 : mI M2 (m + 1) = mI M (m + 1) := m2 _ (by omega)
  refine Cn.of (by decide) (Nat.le_of_ble_eq_true rfl) (bX11_clear_0 hM ⟨_, cp_X11_becomes G d X M2 m 3 0 hM (by omega), ?_⟩)
  rintro M6 r7 ⟨e6, e7⟩
  have m6 : ∀ c, c ≠ m + 1 → mI M6 c = mI M2 c := fun c hc => by rw [e6, mI_sI, up2_off _ _ _ hc]
  have s6 : mI M6 (m + 1) = upd (mI M (m + 1)) 3 0 := by rw [e6, mI_sI, up2_row, s2]
  have R6 : mR M6 = mR M := by
    rw [e6, e2]
    rfl
  refine ⟨by rw [e1, e7, s2, hB.2.1], ⟨nb, nl, nx, 0, nd, la, ?_⟩, hr.house hbm (fun c h4 h5 => by rw [m6 _ h5, m2 _ (by omega)]) (fun c _ => by rw [R6])⟩
  rw [s6]
  refine hh.small (fun k hk => upd_ne (by omega)) upd_eq (by omega) (by rw [upd_ne (by omega), w8]) w9 (fun k hk => absurd hk (by omega)) (fun k hk => by rw [upd_ne (by omega)]; exact wd k hk) (by rw [upd_ne (by omega), upd_ne (by omega)]; exact ws) (by rw [m6 _ (by omega), e2, mI_sI, up2_same, upd_eq]) (by rw [m6 _ (by omega), e2, mI_sI, up2_k _ _ _ (by omega)]) (fun k hk => by rw [m6 _ (by omega), m2 _ (by omega), upd_ne (by omega)]; exact hB.2.2.2 k hk) ?_ (fun k hk => ?_) (fun c h4 h5 h6 => by rw [m6 _ (by omega), m2 _ (by omega)]) (by rw [R6])
  · refine ⟨by rw [m6 _ (by omega), m2 _ (by omega)]; exact hD.1, fun k hk => ?_⟩
    rw [m6 _ (by omega), m6 _ (by omega), m2 _ (by omega), m2 _ (by omega), upd_ne (by omega), upd_ne (by omega)]
    exact hD.2 k hk
  · rw [m6 _ (by omega), m2 _ (by omega), upd_ne (by omega)]
    exact hR k hk
theorem bX10_trim_0 {G : Gl} {d : Nat} {X : Sh} {M : Mm} {Q : Mm → Int32 → Prop} {a : Nat} {x1 : Int32} (hS : Sh9 X a) (h : ((0 ≤ x1 ∧ x1 ≤ (mI M (a + 227) 1) → (∀ M2 : Mm, M2 = sI M (a + 227) 1 x1 → Q M2 x1)) ∧ (¬ (0 ≤ x1 ∧ x1 ≤ (mI M (a + 227) 1)) → Q M (-1000000001)))) : Wn G m_X10_trim (d + 1) 0 [(0, .ref a), (1, .int x1)] [] X M Q := by
  refine wp_iload_n 1 dX10_trim_0 rfl rfl ?_
  refine wp_iconst (v := 0) dX10_trim_1 rfl ?_
  refine wp_aload_n 0 dX10_trim_2 rfl rfl ?_
  refine wp_getR dX10_trim_3 fl_RX10_33 rfl (sh9_K hS) (sh9_F_tape hS) ?_
  refine wp_getI dX10_trim_6 fl_RX10_200 rfl (sh7_K (sh9_S_tape hS)) ?_
  refine wp_csip dX10_trim_9 ck_RX10_63 rfl (as := [.int x1, .int 0, .int ((mI M (a + 227) 1))]) rfl rfl (Nat.le_of_ble_eq_true rfl) (cp_X10_isWithin G d X M x1 0 (mI M (a + 227) 1)) ?_
  refine wp_ifB_ne (inferInstance) (tgt := 18) dX10_trim_12 (by decide) (fun c1 => ?_) (fun c1 => ?_)
  · replace h := h.1 c1
    refine wp_aload_n 0 dX10_trim_18 rfl rfl ?_
    refine wp_getR dX10_trim_19 fl_RX10_33 rfl (sh9_K hS) (sh9_F_tape hS) ?_
    refine wp_iload_n 1 dX10_trim_22 rfl rfl ?_
    refine wp_putI dX10_trim_23 fp_RX10_200 rfl (sh7_K (sh9_S_tape hS)) ?_
    refine wp_nm (fun M2 eM2 => ?_)
    replace h := h M2 eM2
    refine wp_iload_n 1 dX10_trim_26 rfl rfl ?_
    exact wn_iret dX10_trim_27 rfl h
  · replace h := h.2 c1
    refine wp_ldc dX10_trim_15 kc_RX10_67 ?_
    exact wn_iret dX10_trim_17 rfl h
theorem bX11_trim_0 {G : Gl} {d : Nat} {X : Sh} {M : Mm} {Q : Mm → Int32 → Prop} {a : Nat} {x1 : Int32} (hS : Sh10 X a) (h : ((0 ≤ x1 ∧ x1 ≤ (mI M a 19) → (∀ M2 : Mm, M2 = sI M a 19 x1 → Q M2 x1)) ∧ (¬ (0 ≤ x1 ∧ x1 ≤ (mI M a 19)) → Q M (-1000000001)))) : Wn G m_X11_trim (d + 1) 0 [(0, .ref a), (1, .int x1)] [] X M Q := by
  refine wp_iload_n 1 dX11_trim_0 rfl rfl ?_
  refine wp_i2l dX11_trim_1 ?_
  refine wp_lconst (v := 0) dX11_trim_2 rfl ?_
  refine wp_aload_n 0 dX11_trim_3 rfl rfl ?_
  refine wp_getI dX11_trim_4 fl_RX11_219 rfl (sh10_K hS) ?_
  refine wp_i2l dX11_trim_7 ?_
  refine wp_csip dX11_trim_8 ck_RX11_78 rfl (as := [.long x1.toInt64, .long 0, .long ((mI M a 19).toInt64)]) rfl rfl (Nat.le_of_ble_eq_true rfl) (cp_X11_isIn G d X M x1 0 (mI M a 19) (by decide) rfl) ?_
  refine wp_ifB_ne (inferInstance) (tgt := 17) dX11_trim_11 (by decide) (fun c1 => ?_) (fun c1 => ?_)
  · replace h := h.1 c1
    refine wp_aload_n 0 dX11_trim_17 rfl rfl ?_
    refine wp_iload_n 1 dX11_trim_18 rfl rfl ?_
    refine wp_putI dX11_trim_19 fp_RX11_219 rfl (sh10_K hS) ?_
    refine wp_nm (fun M2 eM2 => ?_)
    replace h := h M2 eM2
    refine wp_iload_n 1 dX11_trim_22 rfl rfl ?_
    exact wn_iret dX11_trim_23 rfl h
  · replace h := h.2 c1
    refine wp_ldc dX11_trim_14 kc_RX11_100 ?_
    exact wn_iret dX11_trim_16 rfl h
theorem Rest.own {M M2 : Mm} {b m : Nat} (h : Rest M b m) (hbm : b + 266 ≤ m) (e : ∀ c, RestK b m c → mI M2 c = mI M c) (eR : mR M2 = mR M) (f2 : mI M2 b 2 = mI M b 2) (g3 : mI M2 m 3 = mI M m 3) : ImR M2 b m ∧ PeR M2 b ∧ ShR M2 b m ∧ SlR M2 b m := by
  obtain ⟨⟨i1, i2⟩, ⟨⟨la, p1⟩, ⟨la2, p2⟩⟩, t, s, l, w⟩ := h
  refine ⟨⟨by rw [f2, g3]; exact i1, fun q => ?_⟩, ⟨⟨la, p1.mR eR⟩, ⟨la2, p2.mR eR⟩⟩, fun i hi => ?_, fun i hi => ?_⟩
  · rw [g3] at q
    rw [e (m + 2) (by unfold RestK; omega)]
    exact (i2 q).mem (fun c h1 h2 h3 => e c (Or.inl ⟨by omega, by omega, h3⟩)) (by rw [eR])
  · rw [e (b + 232 + 3 * i) (by unfold RestK; omega), e (b + 233 + 3 * i) (by unfold RestK; omega), e (b + 234 + 3 * i) (by unfold RestK; omega), e (m + 4) (by unfold RestK; omega), e (m + 5) (by unfold RestK; omega), e (m + 6) (by unfold RestK; omega)]
    exact s i hi
  · rw [e (b + 245 + 4 * i) (by unfold RestK; omega), e (b + 246 + 4 * i) (by unfold RestK; omega), e (b + 247 + 4 * i) (by unfold RestK; omega), e (b + 248 + 4 * i) (by unfold RestK; omega), e (m + 7) (by unfold RestK; omega), e (m + 8) (by unfold RestK; omega), e (m + 9) (by unfold RestK; omega), e (m + 10) (by unfold RestK; omega), e (m + 11) (by unfold RestK; omega)]
    exact l i hi
theorem case_trim (G : Gl) (d : Nat) (hd : 16 ≤ d) (X : Sh) (b m : Nat) (hS : Sh9 X b) (hM : Sh10 X m) (hbm : b + 266 ≤ m) (x1 : Int32) : Case G d X b m m_X10_trim m_X11_trim [.int x1] := by
  obtain ⟨d, rfl⟩ : ∃ d1, d = d1 + 1 := ⟨d - 1, by omega⟩
  intro M hs
  obtain ⟨⟨nb, nl, nx, nt, nd, la, hh⟩, hr⟩ := id hs
  obtain ⟨_, _, ⟨n, n1, n2, n3, n4⟩, _, _, ⟨w, w1, w2, w3, w4⟩⟩ := id hr
  by_cases h : 0 ≤ x1 ∧ x1 ≤ nI n
  · obtain ⟨v, hv, rfl⟩ := ix_le (nb := n) (by omega) h.1 h.2
    refine Cn.of (by decide) (Nat.le_of_ble_eq_true rfl) (bX10_trim_0 hS ⟨fun _ => ?_, fun q => absurd (by rw [n2]; exact h) q⟩)
    intro M2 e2
    have m2 : ∀ c, c ≠ b + 227 → mI M2 c = mI M c := fun c hc => by rw [e2, mI_sI, up2_off _ _ _ hc]
    refine Cn.of (by decide) (Nat.le_of_ble_eq_true rfl) (bX11_trim_0 hM ⟨fun _ => ?_, fun q => absurd (by rw [m2 _ (by omega), n3]; exact h) q⟩)
    intro M3 e3
    have m3 : ∀ c, c ≠ m → mI M3 c = mI M2 c := fun c hc => by rw [e3, mI_sI, up2_off _ _ _ hc]
    have k3 : ∀ k, k ≠ 19 → mI M3 m k = mI M m k := fun k hk => by rw [e3, mI_sI, up2_k _ _ _ hk, m2 _ (by omega)]
    have R3 : mR M3 = mR M := by
      rw [e3, e2]
      rfl
    have oth : ∀ c, c ≠ m → c ≠ b + 227 → mI M3 c = mI M c := fun c h1 h2 => by rw [m3 _ h1, m2 _ h2]
    obtain ⟨r1, r2, r4, r5⟩ := hr.own hbm (M2 := M3) (fun c hc => oth c (by unfold RestK at hc; omega) (by unfold RestK at hc; omega)) R3 (by rw [oth _ (by omega) (by omega)]) (k3 3 (by omega))
    refine ⟨rfl, ?_, r1, r2, ⟨v, by omega, ?_, ?_, fun i hi => ?_⟩, r4, r5, ⟨w, w1, ?_, ?_, fun i hi => ?_⟩⟩
    · rw [oth (m + 1) (by omega) (by omega)]
      exact hs.1.mem (fun c h1 h2 _ => oth c (by omega) (by omega)) (by rw [R3])
    · rw [m3 _ (by omega), e2, mI_sI, up2_same]
    · rw [e3, mI_sI, up2_same]
    · rw [oth _ (by omega) (by omega), oth _ (by omega) (by omega)]
      exact n4 i (by omega)
    · rw [oth _ (by omega) (by omega), w2]
    · rw [k3 _ (by omega), w3]
    · rw [oth _ (by omega) (by omega), oth _ (by omega) (by omega)]
      exact w4 i hi
  · exact Cn.of (by decide) (Nat.le_of_ble_eq_true rfl) (bX10_trim_0 hS ⟨fun q => absurd (by rw [n2] at q; exact q) h, fun _ => Cn.of (by decide) (Nat.le_of_ble_eq_true rfl) (bX11_trim_0 hM ⟨fun q => absurd (by rw [n3] at q; exact q) h, fun _ => ⟨rfl, hs⟩⟩)⟩)
theorem bX10_tell_0 {G : Gl} {d : Nat} {X : Sh} {M : Mm} {Q : Mm → Int32 → Prop} {a : Nat} {x1 : Int32} (hS : Sh9 X a) (h : (((mI M a 8) < 60 → (∃ j2 : Nat, (mI M a 8) = nI j2 ∧ j2 < 60 ∧ (∀ M5 : Mm, M5 = sI M (a + 265) j2 x1 → (∀ M6 : Mm, M6 = sI M5 a 8 ((mI M5 a 8) + 1) → Q M6 (mI M6 a 8))))) ∧ (¬ ((mI M a 8) < 60) → Q M (-1000000003)))) : Wn G m_X10_tell d 0 [(0, .ref a), (1, .int x1)] [] X M Q := by
  refine wp_aload_n 0 dX10_tell_0 rfl rfl ?_
  refine wp_getI dX10_tell_1 fl_RX10_55 rfl (sh9_K hS) ?_
  refine wp_bipush (v := 60) dX10_tell_4 rfl ?_
  refine wp_icmp_lt (tgt := 12) dX10_tell_6 (by decide) (fun c1 => ?_) (fun c1 => ?_)
  · replace h := h.1 c1
    refine wp_aload_n 0 dX10_tell_12 rfl rfl ?_
    refine wp_getR dX10_tell_13 fl_RX10_51 rfl (sh9_K hS) (sh9_F_waiting hS) ?_
    refine wp_aload_n 0 dX10_tell_16 rfl rfl ?_
    refine wp_getI dX10_tell_17 fl_RX10_55 rfl (sh9_K hS) ?_
    refine wp_iload_n 1 dX10_tell_20 rfl rfl ?_
    obtain ⟨j2, o3, o4, h⟩ := h
    refine wp_iast (n := 60) dX10_tell_21 (sh9_K_waiting hS) (sh9_N_waiting hS) (by decide) o3 o4 ?_
    refine wp_nm (fun M5 eM5 => ?_)
    replace h := h M5 eM5
    refine wp_aload_n 0 dX10_tell_22 rfl rfl ?_
    refine wp_dup dX10_tell_23 rfl ?_
    refine wp_getI dX10_tell_24 fl_RX10_55 rfl (sh9_K hS) ?_
    refine wp_iconst (v := 1) dX10_tell_27 rfl ?_
    refine wp_iadd dX10_tell_28 ?_
    refine wp_putI dX10_tell_29 fp_RX10_55 rfl (sh9_K hS) ?_
    refine wp_nm (fun M6 eM6 => ?_)
    replace h := h M6 eM6
    refine wp_aload_n 0 dX10_tell_32 rfl rfl ?_
    refine wp_getI dX10_tell_33 fl_RX10_55 rfl (sh9_K hS) ?_
    exact wn_iret dX10_tell_36 rfl h
  · replace h := h.2 c1
    refine wp_ldc dX10_tell_9 kc_RX10_111 ?_
    exact wn_iret dX10_tell_11 rfl h
theorem bX11_tell_0 {G : Gl} {d : Nat} {X : Sh} {M : Mm} {Q : Mm → Int32 → Prop} {a : Nat} {x1 : Int32} (hS : Sh10 X a) (h : ((¬ ((mI M a 34) = 60) → (∃ j2 : Nat, (mI M a 34) = nI j2 ∧ j2 < 60 ∧ (∀ M5 : Mm, M5 = sI M (a + 21) j2 x1 → (∀ M6 : Mm, M6 = sI M5 a 34 ((mI M5 a 34) + 1) → Q M6 (mI M6 a 34))))) ∧ ((mI M a 34) = 60 → Q M (-1000000003)))) : Wn G m_X11_tell d 0 [(0, .ref a), (1, .int x1)] [] X M Q := by
  refine wp_aload_n 0 dX11_tell_0 rfl rfl ?_
  refine wp_getI dX11_tell_1 fl_RX11_335 rfl (sh10_K hS) ?_
  refine wp_bipush (v := 60) dX11_tell_4 rfl ?_
  refine wp_icmp_ne (tgt := 12) dX11_tell_6 (by decide) (fun c1 => ?_) (fun c1 => ?_)
  · replace h := h.1 c1
    refine wp_aload_n 0 dX11_tell_12 rfl rfl ?_
    refine wp_getR dX11_tell_13 fl_RX11_71 rfl (sh10_K hS) (sh10_F_waits hS) ?_
    refine wp_aload_n 0 dX11_tell_16 rfl rfl ?_
    refine wp_getI dX11_tell_17 fl_RX11_335 rfl (sh10_K hS) ?_
    refine wp_iload_n 1 dX11_tell_20 rfl rfl ?_
    obtain ⟨j2, o3, o4, h⟩ := h
    refine wp_iast (n := 60) dX11_tell_21 (sh10_K_waits hS) (sh10_N_waits hS) (by decide) o3 o4 ?_
    refine wp_nm (fun M5 eM5 => ?_)
    replace h := h M5 eM5
    refine wp_aload_n 0 dX11_tell_22 rfl rfl ?_
    refine wp_dup dX11_tell_23 rfl ?_
    refine wp_getI dX11_tell_24 fl_RX11_335 rfl (sh10_K hS) ?_
    refine wp_iconst (v := 1) dX11_tell_27 rfl ?_
    refine wp_iadd dX11_tell_28 ?_
    refine wp_putI dX11_tell_29 fp_RX11_335 rfl (sh10_K hS) ?_
    refine wp_nm (fun M6 eM6 => ?_)
    replace h := h M6 eM6
    refine wp_aload_n 0 dX11_tell_32 rfl rfl ?_
    refine wp_getI dX11_tell_33 fl_RX11_335 rfl (sh10_K hS) ?_
    exact wn_iret dX11_tell_36 rfl h
  · replace h := h.2 c1
    refine wp_ldc dX11_tell_9 kc_RX11_101 ?_
    exact wn_iret dX11_tell_11 rfl h
theorem case_tell (G : Gl) (d : Nat) (hd : 16 ≤ d) (X : Sh) (b m : Nat) (hS : Sh9 X b) (hM : Sh10 X m) (hbm : b + 266 ≤ m) (x1 : Int32) : Case G d X b m m_X10_tell m_X11_tell [.int x1] := by
  obtain ⟨d, rfl⟩ : ∃ d1, d = d1 + 1 := ⟨d - 1, by omega⟩
  intro M hs
  obtain ⟨⟨nb, nl, nx, nt, nd, la, hh⟩, hr⟩ := id hs
  obtain ⟨_, _, ⟨n, n1, n2, n3, n4⟩, _, _, ⟨w, w1, w2, w3, w4⟩⟩ := id hr
  by_cases h : w < 60
  · have l60 : mI M b 8 < 60 := by
      rw [w2]
      exact (nI_ltI (b := 60) (by omega) (by omega)).mpr h
    have n60 : ¬ mI M m 34 = 60 := fun q => by
      rw [w3] at q
      have := (nI_inj (b := 60) (by omega) (by omega)).mp q
      omega
    refine Cn.of (by decide) (Nat.le_of_ble_eq_true rfl) (bX10_tell_0 hS ⟨fun _ => ⟨w, w2, h, ?_⟩, fun q => absurd l60 q⟩)
    intro M5 e5 M6 e6
    have m6 : ∀ c, c ≠ b → c ≠ b + 265 → mI M6 c = mI M c := fun c h1 h2 => by rw [e6, mI_sI, up2_off _ _ _ h1, e5, mI_sI, up2_off _ _ _ h2]
    have v6 : mI M6 b 8 = nI (w + 1) := by rw [e6, mI_sI, up2_same, e5, mI_sI, up2_off _ _ _ (by omega), w2, nI_1]
    have r6 : mI M6 (b + 265) = upd (mI M (b + 265)) w x1 := by rw [e6, mI_sI, up2_off _ _ _ (by omega), e5, mI_sI, up2_row]
    have k6 : ∀ k, k ≠ 8 → mI M6 b k = mI M b k := fun k hk => by rw [e6, mI_sI, up2_k _ _ _ hk, e5, mI_sI, up2_off _ _ _ (by omega)]
    have z6 : mI M6 m 34 = nI w := by rw [m6 _ (by omega) (by omega), w3]
    rw [v6]
    refine Cn.of (by decide) (Nat.le_of_ble_eq_true rfl) (bX11_tell_0 hM ⟨fun _ => ⟨w, z6, h, ?_⟩, fun q => absurd (by rw [m6 _ (by omega) (by omega)] at q; exact q) n60⟩)
    intro M7 e7 M8 e8
    have m8 : ∀ c, c ≠ m → c ≠ m + 21 → mI M8 c = mI M6 c := fun c h1 h2 => by rw [e8, mI_sI, up2_off _ _ _ h1, e7, mI_sI, up2_off _ _ _ h2]
    have v8 : mI M8 m 34 = nI (w + 1) := by rw [e8, mI_sI, up2_same, e7, mI_sI, up2_off _ _ _ (by omega), z6, nI_1]
    have r8 : mI M8 (m + 21) = upd (mI M (m + 21)) w x1 := by rw [e8, mI_sI, up2_off _ _ _ (by omega), e7, mI_sI, up2_row, m6 _ (by omega) (by omega)]
    have k8 : ∀ k, k ≠ 34 → mI M8 m k = mI M m k := fun k hk => by rw [e8, mI_sI, up2_k _ _ _ hk, e7, mI_sI, up2_off _ _ _ (by omega), m6 _ (by omega) (by omega)]
    have R8 : mR M8 = mR M := by
      rw [e8, e7, e6, e5]
      rfl
    have oth : ∀ c, c ≠ m → c ≠ b → c ≠ m + 21 → c ≠ b + 265 → mI M8 c = mI M c := fun c h1 h2 h3 h4 => by rw [m8 _ h1 h3, m6 _ h2 h4]
    refine ⟨v8.symm, ?_, ?_⟩
    · rw [oth (m + 1) (by omega) (by omega) (by omega) (by omega)]
      exact hs.1.mem (fun c h1 h2 _ => oth c (by omega) (by omega) (by omega) (by omega)) (by rw [R8])
    · obtain ⟨⟨i1, i2⟩, ⟨⟨la1, p1⟩, ⟨la2, p2⟩⟩, t, s, l, _⟩ := hr
      refine ⟨⟨by rw [m8 _ (by omega) (by omega), k6 _ (by omega), k8 _ (by omega)]; exact i1, fun q => ?_⟩, ⟨⟨la1, p1.mR R8⟩, ⟨la2, p2.mR R8⟩⟩, ⟨n, n1, by rw [oth _ (by omega) (by omega) (by omega) (by omega), n2], by rw [k8 _ (by omega), n3], fun i hi => ?_⟩, fun i hi => ?_, fun i hi => ?_, ⟨w + 1, by omega, by rw [m8 _ (by omega) (by omega), v6], v8, fun i hi => ?_⟩⟩
      · rw [k8 _ (by omega)] at q
        rw [oth (m + 2) (by omega) (by omega) (by omega) (by omega)]
        exact (i2 q).mem (fun c h1 h2 h3 => oth c (by omega) (by omega) (by omega) (by omega)) (by rw [R8])
      · rw [oth _ (by omega) (by omega) (by omega) (by omega), oth _ (by omega) (by omega) (by omega) (by omega)]
        exact n4 i hi
      · rw [oth (b + 232 + 3 * i) (by omega) (by omega) (by omega) (by omega), oth (b + 233 + 3 * i) (by omega) (by omega) (by omega) (by omega), oth (b + 234 + 3 * i) (by omega) (by omega) (by omega) (by omega), oth (m + 4) (by omega) (by omega) (by omega) (by omega), oth (m + 5) (by omega) (by omega) (by omega) (by omega), oth (m + 6) (by omega) (by omega) (by omega) (by omega)]
        exact s i hi
      · rw [oth (b + 245 + 4 * i) (by omega) (by omega) (by omega) (by omega), oth (b + 246 + 4 * i) (by omega) (by omega) (by omega) (by omega), oth (b + 247 + 4 * i) (by omega) (by omega) (by omega) (by omega), oth (b + 248 + 4 * i) (by omega) (by omega) (by omega) (by omega), oth (m + 7) (by omega) (by omega) (by omega) (by omega), oth (m + 8) (by omega) (by omega) (by omega) (by omega), oth (m + 9) (by omega) (by omega) (by omega) (by omega), oth (m + 10) (by omega) (by omega) (by omega) (by omega), oth (m + 11) (by omega) (by omega) (by omega) (by omega)]
        exact l i hi
      · rw [m8 _ (by omega) (by omega), r6, r8]
        by_cases e : i = w
        · subst e
          rw [upd_eq, upd_eq]
        · rw [upd_ne e, upd_ne e]
          exact w4 i (by omega)
  · have l60 : ¬ mI M b 8 < 60 := fun q => by
      rw [w2] at q
      exact h ((nI_ltI (b := 60) (by omega) (by omega)).mp q)
    have n60 : mI M m 34 = 60 := by
      rw [w3]
      exact congrArg nI (show w = 60 by omega)
    exact Cn.of (by decide) (Nat.le_of_ble_eq_true rfl) (bX10_tell_0 hS ⟨fun q => absurd q l60, fun _ => Cn.of (by decide) (Nat.le_of_ble_eq_true rfl) (bX11_tell_0 hM ⟨fun q => absurd n60 q, fun _ => ⟨rfl, hs⟩⟩)⟩)
