/-! calls: textTold, why, ask, bin -/
theorem bX10_textTold_0 {G : Gl} {d : Nat} {X : Sh} {M : Mm} {Q : Mm → Int32 → Prop} {a : Nat} {x1 : Int32} {x2 : Int32} (hS : Sh9 X a) (h : ((0 ≤ x1 ∧ x1 < mI M ((a + 1) + 62) 5 → ((x2 = 0 → (∃ j3 : Nat, x1 = nI j3 ∧ j3 < 12 ∧ Q M (mI M (((a + 1) + 62) + 1) j3))) ∧ (x2 = 1 → (∃ j7 : Nat, x1 = nI j7 ∧ j7 < 12 ∧ Q M (mI M (((a + 1) + 62) + 2) j7))) ∧ (x2 = 2 → (∃ j11 : Nat, x1 = nI j11 ∧ j11 < 12 ∧ Q M (mI M (((a + 1) + 62) + 3) j11))) ∧ (x2 ≠ 0 → x2 ≠ 1 → x2 ≠ 2 → Q M (-1000000001)))) ∧ (¬ (0 ≤ x1 ∧ x1 < mI M ((a + 1) + 62) 5) → Q M (-1000000001)))) : Wn G m_X10_textTold (d + 1) 0 [(0, .ref a), (1, .int x1), (2, .int x2)] [] X M Q := by
  refine wp_aload_n 0 dX10_textTold_0 rfl rfl ?_
  refine wp_getR dX10_textTold_1 fl_RX10_10 rfl (sh9_K hS) (sh9_F_house hS) ?_
  refine wp_getR dX10_textTold_4 fl_RX10_209 rfl (sh2_K (sh9_S_house hS)) (sh2_F_texts (sh9_S_house hS)) ?_
  refine wp_iload_n 1 dX10_textTold_7 rfl rfl ?_
  refine wp_cvip dX10_textTold_8 ck_RX10_218 (sh8_K (sh2_S_texts (sh9_S_house hS))) (as := [.int x1]) rfl rfl (Nat.le_of_ble_eq_true rfl) (cp_X9_has G d X M ((a + 1) + 62) x1 (sh2_S_texts (sh9_S_house hS))) ?_
  refine wp_ifB_ne (inferInstance) (tgt := 17) dX10_textTold_11 (by decide) (fun c1 => ?_) (fun c1 => ?_)
  · replace h := h.1 c1
    refine wp_iload_n 2 dX10_textTold_17 rfl rfl ?_
    by_cases c2 : x2 = 0
    · replace h := h.1 c2
      refine wp_tblIn (tgt := 44) (off := 26) dX10_textTold_18 (by rw [c2]; decide) (by rw [c2]; decide) (by rw [c2]; rfl) (by decide) ?_
      refine wp_aload_n 0 dX10_textTold_44 rfl rfl ?_
      refine wp_getR dX10_textTold_45 fl_RX10_10 rfl (sh9_K hS) (sh9_F_house hS) ?_
      refine wp_getR dX10_textTold_48 fl_RX10_209 rfl (sh2_K (sh9_S_house hS)) (sh2_F_texts (sh9_S_house hS)) ?_
      refine wp_getR dX10_textTold_51 fl_RX10_219 rfl (sh8_K (sh2_S_texts (sh9_S_house hS))) (sh8_F_key (sh2_S_texts (sh9_S_house hS))) ?_
      refine wp_iload_n 1 dX10_textTold_54 rfl rfl ?_
      obtain ⟨j3, o4, o5, h⟩ := h
      refine wp_iald (n := 12) dX10_textTold_55 (sh8_K_key (sh2_S_texts (sh9_S_house hS))) (sh8_N_key (sh2_S_texts (sh9_S_house hS))) (by decide) o4 o5 ?_
      exact wn_iret dX10_textTold_56 rfl h
    by_cases c6 : x2 = 1
    · replace h := h.2.1 c6
      refine wp_tblIn (tgt := 57) (off := 39) dX10_textTold_18 (by rw [c6]; decide) (by rw [c6]; decide) (by rw [c6]; rfl) (by decide) ?_
      refine wp_aload_n 0 dX10_textTold_57 rfl rfl ?_
      refine wp_getR dX10_textTold_58 fl_RX10_10 rfl (sh9_K hS) (sh9_F_house hS) ?_
      refine wp_getR dX10_textTold_61 fl_RX10_209 rfl (sh2_K (sh9_S_house hS)) (sh2_F_texts (sh9_S_house hS)) ?_
      refine wp_getR dX10_textTold_64 fl_RX10_222 rfl (sh8_K (sh2_S_texts (sh9_S_house hS))) (sh8_F_bin (sh2_S_texts (sh9_S_house hS))) ?_
      refine wp_iload_n 1 dX10_textTold_67 rfl rfl ?_
      obtain ⟨j7, o8, o9, h⟩ := h
      refine wp_iald (n := 12) dX10_textTold_68 (sh8_K_bin (sh2_S_texts (sh9_S_house hS))) (sh8_N_bin (sh2_S_texts (sh9_S_house hS))) (by decide) o8 o9 ?_
      exact wn_iret dX10_textTold_69 rfl h
    by_cases c10 : x2 = 2
    · replace h := h.2.2.1 c10
      refine wp_tblIn (tgt := 70) (off := 52) dX10_textTold_18 (by rw [c10]; decide) (by rw [c10]; decide) (by rw [c10]; rfl) (by decide) ?_
      refine wp_aload_n 0 dX10_textTold_70 rfl rfl ?_
      refine wp_getR dX10_textTold_71 fl_RX10_10 rfl (sh9_K hS) (sh9_F_house hS) ?_
      refine wp_getR dX10_textTold_74 fl_RX10_209 rfl (sh2_K (sh9_S_house hS)) (sh2_F_texts (sh9_S_house hS)) ?_
      refine wp_getR dX10_textTold_77 fl_RX10_224 rfl (sh8_K (sh2_S_texts (sh9_S_house hS))) (sh8_F_pieces (sh2_S_texts (sh9_S_house hS))) ?_
      refine wp_iload_n 1 dX10_textTold_80 rfl rfl ?_
      obtain ⟨j11, o12, o13, h⟩ := h
      refine wp_iald (n := 12) dX10_textTold_81 (sh8_K_pieces (sh2_S_texts (sh9_S_house hS))) (sh8_N_pieces (sh2_S_texts (sh9_S_house hS))) (by decide) o12 o13 ?_
      exact wn_iret dX10_textTold_82 rfl h
    replace h := h.2.2.2 c2 c6 c10
    have ec2 := ne_ti (z := 0) c2 rfl
    have ec6 := ne_ti (z := 1) c6 rfl
    have ec10 := ne_ti (z := 2) c10 rfl
    refine wp_tblOut (tgt := 83) dX10_textTold_18 (by omega) (by decide) ?_
    refine wp_ldc dX10_textTold_83 kc_RX10_67 ?_
    exact wn_iret dX10_textTold_85 rfl h
  · replace h := h.2 c1
    refine wp_ldc dX10_textTold_14 kc_RX10_67 ?_
    exact wn_iret dX10_textTold_16 rfl h
theorem bX11_textTold_0 {G : Gl} {d : Nat} {X : Sh} {M : Mm} {Q : Mm → Int32 → Prop} {a : Nat} {x1 : Int32} {x2 : Int32} (hS : Sh10 X a) (hd : 1 ≤ d) (h : ((¬ (0 ≤ x1 ∧ x1 ≤ mI M (a + 1) 2 - 1) → Q M (-1000000001)) ∧ (0 ≤ x1 ∧ x1 ≤ mI M (a + 1) 2 - 1 → ((0 ≤ x2 ∧ x2 ≤ 2 → (∃ j3 : Nat, (340 + 200 * x1) = nI j3 ∧ j3 < 2950 ∧ (∀ v6 : Int32, v6 = (mI M (a + 1) j3) → ((¬ (x2 = 0) → ((¬ (x2 = 2) → ((6 ≤ v6 → Q M (-1000000005)) ∧ (¬ (6 ≤ v6) → Q M v6))) ∧ (x2 = 2 → (∃ j11 : Nat, ((340 + 200 * x1) + 1) = nI j11 ∧ j11 < 2950 ∧ Q M (mI M (a + 1) j11))))) ∧ (x2 = 0 → Q M (if 6 ≤ v6 then (v6 - 5) else 0)))))) ∧ (¬ (0 ≤ x2 ∧ x2 ≤ 2) → Q M (-1000000001)))))) : Wn G m_X11_textTold (d + 1) 0 [(0, .ref a), (1, .int x1), (2, .int x2)] [] X M Q := by
  refine wp_aload_n 0 dX11_textTold_0 rfl rfl ?_
  refine wp_iload_n 1 dX11_textTold_1 rfl rfl ?_
  refine wp_cvip dX11_textTold_2 ck_RX11_309 (sh10_K hS) (as := [.int x1]) rfl rfl (Nat.le_of_ble_eq_true rfl) (cp_X11_isText G d (by omega) X M a x1 hS) ?_
  refine wp_ifB_eq (inferInstance) (tgt := 20) dX11_textTold_5 (by decide) (fun c1 => ?_) (fun c1 => ?_)
  · replace h := h.1 c1
    refine wp_ldc dX11_textTold_20 kc_RX11_100 ?_
    exact wn_iret dX11_textTold_22 rfl h
  · replace h := h.2 c1
    refine wp_iload_n 2 dX11_textTold_8 rfl rfl ?_
    refine wp_i2l dX11_textTold_9 ?_
    refine wp_lconst (v := 0) dX11_textTold_10 rfl ?_
    refine wp_ldc2 dX11_textTold_11 kc_RX11_130 ?_
    refine wp_csip dX11_textTold_14 ck_RX11_78 rfl (as := [.long x2.toInt64, .long 0, .long 2]) rfl rfl (Nat.le_of_ble_eq_true rfl) (cp_X11_isIn G d X M x2 0 2 (by decide) (by decide)) ?_
    refine wp_ifB_ne (inferInstance) (tgt := 23) dX11_textTold_17 (by decide) (fun c2 => ?_) (fun c2 => ?_)
    · replace h := h.1 c2
      refine wp_aload_n 0 dX11_textTold_23 rfl rfl ?_
      refine wp_getR dX11_textTold_24 fl_RX11_7 rfl (sh10_K hS) (sh10_F_s hS) ?_
      refine wp_aload_n 0 dX11_textTold_27 rfl rfl ?_
      refine wp_iload_n 1 dX11_textTold_28 rfl rfl ?_
      refine wp_cvip dX11_textTold_29 ck_RX11_300 (sh10_K hS) (as := [.int x1]) rfl rfl (Nat.le_of_ble_eq_true rfl) (cp_X11_textAt G d X M a x1 hS) ?_
      obtain ⟨j3, o4, o5, h⟩ := h
      refine wp_iald (n := 2950) dX11_textTold_32 (sh10_K_s hS) (sh10_N_s hS) (by decide) o4 o5 ?_
      refine wp_topi (fun v6 ev6 => ?_)
      replace h := h v6 ev6
      refine wp_istore_n (lo2 := [(3, .int _), (0, .ref _), (1, .int _), (2, .int _)]) dX11_textTold_33 rfl (by decide) rfl ?_
      refine wp_iload_n 3 dX11_textTold_34 rfl rfl ?_
      refine wp_if_ne (tgt := 54) dX11_textTold_35 (by decide) (fun c7 => ?_) (fun c7 => ?_)
      · replace h := h.1 c7
        refine wp_iload_n 3 dX11_textTold_54 rfl rfl ?_
        refine wp_iconst (v := 2) dX11_textTold_55 rfl ?_
        refine wp_icmp_ne (tgt := 74) dX11_textTold_56 (by decide) (fun c9 => ?_) (fun c9 => ?_)
        · replace h := h.1 c9
          refine wp_iload_n 0 dX11_textTold_74 rfl rfl ?_
          refine wp_bipush (v := 6) dX11_textTold_75 rfl ?_
          refine wp_icmp_ge (tgt := 84) dX11_textTold_77 (by decide) (fun c10 => ?_) (fun c10 => ?_)
          · replace h := h.1 c10
            refine wp_ldc dX11_textTold_84 kc_RX11_77 ?_
            exact wn_iret dX11_textTold_86 rfl h
          · replace h := h.2 c10
            refine wp_iload_n 0 dX11_textTold_80 rfl rfl ?_
            refine wp_goto (tgt := 86) dX11_textTold_81 (by decide) ?_
            exact wn_iret dX11_textTold_86 rfl h
        · replace h := h.2 c9
          refine wp_aload_n 1 dX11_textTold_59 rfl rfl ?_
          refine wp_getR dX11_textTold_60 fl_RX11_7 rfl (sh10_K hS) (sh10_F_s hS) ?_
          refine wp_aload_n 1 dX11_textTold_63 rfl rfl ?_
          refine wp_iload_n 2 dX11_textTold_64 rfl rfl ?_
          refine wp_cvip dX11_textTold_65 ck_RX11_300 (sh10_K hS) (as := [.int x1]) rfl rfl (Nat.le_of_ble_eq_true rfl) (cp_X11_textAt G d X M a x1 hS) ?_
          refine wp_iconst (v := 1) dX11_textTold_68 rfl ?_
          refine wp_iadd dX11_textTold_69 ?_
          obtain ⟨j11, o12, o13, h⟩ := h
          refine wp_iald (n := 2950) dX11_textTold_70 (sh10_K_s hS) (sh10_N_s hS) (by decide) o12 o13 ?_
          refine wp_goto (tgt := 86) dX11_textTold_71 (by decide) ?_
          exact wn_iret dX11_textTold_86 rfl h
      · replace h := h.2 c7
        refine wp_iload_n 0 dX11_textTold_38 rfl rfl ?_
        refine wp_bipush (v := 6) dX11_textTold_39 rfl ?_
        have K15 : Wp G m_X11_textTold (d + 1) 0 0 0 0 86 [(3, .int v6), (0, .ref a), (1, .int x1), (2, .int x2)] [.int ((if 6 ≤ v6 then (v6 - 5) else 0))] X M (fun X2 M2 v => X2 = X ∧ ∃ x, v = some (.int x) ∧ Q M2 x) := by
          exact wn_iret dX11_textTold_86 rfl h
        refine wp_icmp_ge (tgt := 48) dX11_textTold_41 (by decide) (fun c14 => ?_) (fun c14 => ?_)
        · refine wp_iload_n 0 dX11_textTold_48 rfl rfl ?_
          refine wp_iconst (v := 5) dX11_textTold_49 rfl ?_
          refine wp_isub dX11_textTold_50 ?_
          refine wp_goto (tgt := 86) dX11_textTold_51 (by decide) ?_
          rw [if_pos c14] at K15
          exact K15
        · refine wp_iconst (v := 0) dX11_textTold_44 rfl ?_
          refine wp_goto (tgt := 86) dX11_textTold_45 (by decide) ?_
          rw [if_neg c14] at K15
          exact K15
    · replace h := h.2 c2
      refine wp_ldc dX11_textTold_20 kc_RX11_100 ?_
      exact wn_iret dX11_textTold_22 rfl h
theorem case_textTold (G : Gl) (d : Nat) (hd : 8 ≤ d) (X : Sh) (b m : Nat) (hS : Sh9 X b) (hM : Sh10 X m) (x1 x2 : Int32) : Case G d X b m m_X10_textTold m_X11_textTold [.int x1, .int x2] := by
  obtain ⟨d, rfl⟩ : ∃ d1, d = d1 + 1 := ⟨d - 1, by omega⟩
  refine Case.pure (fun M nb nl nx nt nd la hh hr => ?_)
  obtain ⟨hW, hB, hF, hT, hD, hR⟩ := id hh
  obtain ⟨w0, w1, w2, w3, w4, w5, w6, w7, w8, w9, wb, wf, _⟩ := id hW
  have d5 : mI M (b + 1 + 62) 5 = nI nx := hT.1
  by_cases h : 0 ≤ x1 ∧ x1 < nI nx
  · have h' : 0 ≤ x1 ∧ x1 < mI M (b + 1 + 62) 5 := by rw [d5]; exact h
    have h'' : 0 ≤ x1 ∧ x1 ≤ mI M (m + 1) 2 - 1 := by rw [w4, has_iff (by omega)]; exact h
    obtain ⟨i, hi, rfl⟩ := ix_of (by omega) h.1 h.2
    obtain ⟨⟨v, hv, v1, v2, v3⟩, v4, _⟩ := hT.2 i hi
    have k6 : (6 : Int32) ≤ nI v ↔ 6 ≤ v := nI_leI (a := 6) (by omega) (by omega)
    by_cases h2 : 0 ≤ x2 ∧ x2 ≤ 2
    · obtain ⟨k, hk, rfl⟩ := ix_le (nb := 2) (by omega) h2.1 h2.2
      match k, hk with
      | 0, _ =>
        refine ⟨nI (if v ≤ 5 then 0 else v - 5), Cn.of (by decide) (Nat.le_of_ble_eq_true rfl) (bX10_textTold_0 hS ⟨fun _ => ⟨fun _ => ⟨i, rfl, by omega, rfl, v2⟩, fun q => absurd q (by decide), fun q => absurd q (by decide), fun q => absurd rfl q⟩, fun q => absurd h' q⟩), Cn.of (by decide) (Nat.le_of_ble_eq_true rfl) (bX11_textTold_0 hM (by omega) ⟨fun q => absurd h'' q, fun _ => ⟨fun _ => ⟨340 + 200 * i, (by first | rfl | (simp only [n_lit, nI_add, pk_mul]; done) | (simp only [n_lit, nI_add, pk_mul]; exact congrArg nI (by omega))), by omega, ?_⟩, fun q => absurd h2 q⟩⟩)⟩
        rintro v6 rfl
        refine ⟨fun q => absurd rfl q, fun _ => ⟨rfl, ?_⟩⟩
        rw [v1]
        by_cases q : 6 ≤ v
        · rw [if_pos (k6.mpr q), if_neg (by omega), n_lit 5, nI_subI _ _ (by omega)]
        · rw [if_neg (fun r => q (k6.mp r)), if_pos (by omega)]
          rfl
      | 1, _ =>
        refine ⟨if v ≤ 5 then nI v else -1000000005, Cn.of (by decide) (Nat.le_of_ble_eq_true rfl) (bX10_textTold_0 hS ⟨fun _ => ⟨fun q => absurd q (by decide), fun _ => ⟨i, rfl, by omega, rfl, v3⟩, fun q => absurd q (by decide), fun _ q => absurd rfl q⟩, fun q => absurd h' q⟩), Cn.of (by decide) (Nat.le_of_ble_eq_true rfl) (bX11_textTold_0 hM (by omega) ⟨fun q => absurd h'' q, fun _ => ⟨fun _ => ⟨340 + 200 * i, (by first | rfl | (simp only [n_lit, nI_add, pk_mul]; done) | (simp only [n_lit, nI_add, pk_mul]; exact congrArg nI (by omega))), by omega, ?_⟩, fun q => absurd h2 q⟩⟩)⟩
        rintro v6 rfl
        rw [v1]
        refine ⟨fun _ => ⟨fun _ => ⟨fun q => ⟨rfl, ?_⟩, fun q => ⟨rfl, ?_⟩⟩, fun q => absurd q (by decide)⟩, fun q => absurd q (by decide)⟩
        · have := k6.mp q
          rw [if_neg (by omega)]
        · have : ¬ 6 ≤ v := fun r => q (k6.mpr r)
          rw [if_pos (by omega)]
      | 2, _ =>
        refine ⟨mI M (m + 1) (341 + 200 * i), Cn.of (by decide) (Nat.le_of_ble_eq_true rfl) (bX10_textTold_0 hS ⟨fun _ => ⟨fun q => absurd q (by decide), fun q => absurd q (by decide), fun _ => ⟨i, rfl, by omega, rfl, v4⟩, fun _ _ q => absurd rfl q⟩, fun q => absurd h' q⟩), Cn.of (by decide) (Nat.le_of_ble_eq_true rfl) (bX11_textTold_0 hM (by omega) ⟨fun q => absurd h'' q, fun _ => ⟨fun _ => ⟨340 + 200 * i, (by first | rfl | (simp only [n_lit, nI_add, pk_mul]; done) | (simp only [n_lit, nI_add, pk_mul]; exact congrArg nI (by omega))), by omega, ?_⟩, fun q => absurd h2 q⟩⟩)⟩
        rintro v6 rfl
        exact ⟨fun _ => ⟨fun q => absurd rfl q, fun _ => ⟨341 + 200 * i, (by first | rfl | (simp only [n_lit, nI_add, pk_mul]; done) | (simp only [n_lit, nI_add, pk_mul]; exact congrArg nI (by omega))), by omega, rfl, rfl⟩⟩, fun q => absurd q (by decide)⟩
    · have q : ∀ c : Nat, c ≤ 2 → ¬ x2 = nI c := fun c hc e => h2 (by
        rw [e]
        exact ⟨nI_pos' (by omega), (nI_leI (b := 2) (by omega) (by omega)).mpr hc⟩)
      exact ⟨-1000000001, Cn.of (by decide) (Nat.le_of_ble_eq_true rfl) (bX10_textTold_0 hS ⟨fun _ => ⟨fun r => absurd r (q 0 (by omega)), fun r => absurd r (q 1 (by omega)), fun r => absurd r (q 2 (by omega)), fun _ _ _ => ⟨rfl, rfl⟩⟩, fun q => absurd h' q⟩), Cn.of (by decide) (Nat.le_of_ble_eq_true rfl) (bX11_textTold_0 hM (by omega) ⟨fun q => absurd h'' q, fun _ => ⟨fun q => absurd q h2, fun _ => ⟨rfl, rfl⟩⟩⟩)⟩
  · have h' : ¬ (0 ≤ x1 ∧ x1 < mI M (b + 1 + 62) 5) := by rw [d5]; exact h
    have h'' : ¬ (0 ≤ x1 ∧ x1 ≤ mI M (m + 1) 2 - 1) := by rw [w4, has_iff (by omega)]; exact h
    exact ⟨-1000000001, Cn.of (by decide) (Nat.le_of_ble_eq_true rfl) (bX10_textTold_0 hS ⟨fun q => absurd q h', fun _ => ⟨rfl, rfl⟩⟩), Cn.of (by decide) (Nat.le_of_ble_eq_true rfl) (bX11_textTold_0 hM (by omega) ⟨fun _ => ⟨rfl, rfl⟩, fun q => absurd q h''⟩)⟩
theorem bX10_why_0 {G : Gl} {d : Nat} {X : Sh} {M : Mm} {Q : Mm → Int32 → Prop} {a : Nat} {x1 : Int32} {x2 : Int32} (hS : Sh9 X a) (h : ((¬ (0 ≤ x1 ∧ x1 ≤ 2) → Q M (-1000000001)) ∧ (0 ≤ x1 ∧ x1 ≤ 2 → ((¬ (x1 = 0) → (∃ q3 : Mm → Int32 → Prop, Cn G m_X9_lastOf d [.ref ((a + 1) + 62), .int x1, .int x2] X M q3 ∧ ∀ M5 r6, q3 M5 r6 → ((0 ≤ r6 → Q M5 r6) ∧ (¬ (0 ≤ r6) → Q M5 (-1000000005))))) ∧ (x1 = 0 → ((0 ≤ x2 ∧ x2 ≤ 5 → (∃ q10 : Mm → Int32 → Prop, Cn G m_X9_lastOf d [.ref ((a + 1) + 62), .int x1, .int x2] X M q10 ∧ ∀ M12 r13, q10 M12 r13 → ((0 ≤ r13 → Q M12 r13) ∧ (¬ (0 ≤ r13) → Q M12 (-1000000005))))) ∧ (¬ (0 ≤ x2 ∧ x2 ≤ 5) → Q M (-1000000001)))))))) : Wn G m_X10_why (d + 1) 0 [(0, .ref a), (1, .int x1), (2, .int x2)] [] X M Q := by
  refine wp_iload_n 1 dX10_why_0 rfl rfl ?_
  refine wp_iconst (v := 0) dX10_why_1 rfl ?_
  refine wp_iconst (v := 2) dX10_why_2 rfl ?_
  refine wp_csip dX10_why_3 ck_RX10_63 rfl (as := [.int x1, .int 0, .int 2]) rfl rfl (Nat.le_of_ble_eq_true rfl) (cp_X10_isWithin G d X M x1 0 2) ?_
  refine wp_ifB_eq (inferInstance) (tgt := 22) dX10_why_6 (by decide) (fun c1 => ?_) (fun c1 => ?_)
  · replace h := h.1 c1
    refine wp_ldc dX10_why_22 kc_RX10_67 ?_
    exact wn_iret dX10_why_24 rfl h
  · replace h := h.2 c1
    refine wp_iload_n 1 dX10_why_9 rfl rfl ?_
    refine wp_if_ne (tgt := 25) dX10_why_10 (by decide) (fun c2 => ?_) (fun c2 => ?_)
    · replace h := h.1 c2
      refine wp_aload_n 0 dX10_why_25 rfl rfl ?_
      refine wp_getR dX10_why_26 fl_RX10_10 rfl (sh9_K hS) (sh9_F_house hS) ?_
      refine wp_getR dX10_why_29 fl_RX10_209 rfl (sh2_K (sh9_S_house hS)) (sh2_F_texts (sh9_S_house hS)) ?_
      refine wp_iload_n 1 dX10_why_32 rfl rfl ?_
      refine wp_iload_n 2 dX10_why_33 rfl rfl ?_
      obtain ⟨q3, o4, h⟩ := h
      refine wp_cvi dX10_why_34 ck_RX10_227 (sh8_K (sh2_S_texts (sh9_S_house hS))) (as := [.int x1, .int x2]) rfl rfl (Nat.le_of_ble_eq_true rfl) o4 (fun M5 r6 o7 => ?_)
      replace h := h M5 r6 o7
      refine wp_istore_n (lo2 := [(3, .int _), (0, .ref _), (1, .int _), (2, .int _)]) dX10_why_37 rfl (by decide) rfl ?_
      refine wp_iload_n 0 dX10_why_38 rfl rfl ?_
      refine wp_if_ge (tgt := 47) dX10_why_39 (by decide) (fun c8 => ?_) (fun c8 => ?_)
      · replace h := h.1 c8
        refine wp_iload_n 0 dX10_why_47 rfl rfl ?_
        exact wn_iret dX10_why_48 rfl h
      · replace h := h.2 c8
        refine wp_ldc dX10_why_42 kc_RX10_199 ?_
        refine wp_goto (tgt := 48) dX10_why_44 (by decide) ?_
        exact wn_iret dX10_why_48 rfl h
    · replace h := h.2 c2
      refine wp_iload_n 2 dX10_why_13 rfl rfl ?_
      refine wp_iconst (v := 0) dX10_why_14 rfl ?_
      refine wp_iconst (v := 5) dX10_why_15 rfl ?_
      refine wp_csip dX10_why_16 ck_RX10_63 rfl (as := [.int x2, .int 0, .int 5]) rfl rfl (Nat.le_of_ble_eq_true rfl) (cp_X10_isWithin G d X M x2 0 5) ?_
      refine wp_ifB_ne (inferInstance) (tgt := 25) dX10_why_19 (by decide) (fun c9 => ?_) (fun c9 => ?_)
      · replace h := h.1 c9
        refine wp_aload_n 0 dX10_why_25 rfl rfl ?_
        refine wp_getR dX10_why_26 fl_RX10_10 rfl (sh9_K hS) (sh9_F_house hS) ?_
        refine wp_getR dX10_why_29 fl_RX10_209 rfl (sh2_K (sh9_S_house hS)) (sh2_F_texts (sh9_S_house hS)) ?_
        refine wp_iload_n 1 dX10_why_32 rfl rfl ?_
        refine wp_iload_n 2 dX10_why_33 rfl rfl ?_
        obtain ⟨q10, o11, h⟩ := h
        refine wp_cvi dX10_why_34 ck_RX10_227 (sh8_K (sh2_S_texts (sh9_S_house hS))) (as := [.int x1, .int x2]) rfl rfl (Nat.le_of_ble_eq_true rfl) o11 (fun M12 r13 o14 => ?_)
        replace h := h M12 r13 o14
        refine wp_istore_n (lo2 := [(3, .int _), (0, .ref _), (1, .int _), (2, .int _)]) dX10_why_37 rfl (by decide) rfl ?_
        refine wp_iload_n 0 dX10_why_38 rfl rfl ?_
        refine wp_if_ge (tgt := 47) dX10_why_39 (by decide) (fun c15 => ?_) (fun c15 => ?_)
        · replace h := h.1 c15
          refine wp_iload_n 0 dX10_why_47 rfl rfl ?_
          exact wn_iret dX10_why_48 rfl h
        · replace h := h.2 c15
          refine wp_ldc dX10_why_42 kc_RX10_199 ?_
          refine wp_goto (tgt := 48) dX10_why_44 (by decide) ?_
          exact wn_iret dX10_why_48 rfl h
      · replace h := h.2 c9
        refine wp_ldc dX10_why_22 kc_RX10_67 ?_
        exact wn_iret dX10_why_24 rfl h
theorem bX11_why_0 {G : Gl} {d : Nat} {X : Sh} {M : Mm} {Q : Mm → Int32 → Prop} {a : Nat} {x1 : Int32} {x2 : Int32} (hS : Sh10 X a) (h : ((¬ (0 ≤ x1 ∧ x1 ≤ 2) → Q M (-1000000001)) ∧ (0 ≤ x1 ∧ x1 ≤ 2 → ((¬ (x1 = 0) → (∃ q5 : Mm → Int32 → Prop, Cn G m_X11_counts d [.ref a, .int ((if x1 = 0 then x2 else (x1 + 5)))] X M q5 ∧ ∀ M7 r8, q5 M7 r8 → Q M7 (f_orNone r8))) ∧ (x1 = 0 → ((0 ≤ x2 ∧ x2 ≤ 5 → (∃ q13 : Mm → Int32 → Prop, Cn G m_X11_counts d [.ref a, .int ((if x1 = 0 then x2 else (x1 + 5)))] X M q13 ∧ ∀ M15 r16, q13 M15 r16 → Q M15 (f_orNone r16))) ∧ (¬ (0 ≤ x2 ∧ x2 ≤ 5) → Q M (-1000000001)))))))) : Wn G m_X11_why (d + 1) 0 [(0, .ref a), (1, .int x1), (2, .int x2)] [] X M Q := by
  refine wp_iload_n 1 dX11_why_0 rfl rfl ?_
  refine wp_i2l dX11_why_1 ?_
  refine wp_lconst (v := 0) dX11_why_2 rfl ?_
  refine wp_ldc2 dX11_why_3 kc_RX11_130 ?_
  refine wp_csip dX11_why_6 ck_RX11_78 rfl (as := [.long x1.toInt64, .long 0, .long 2]) rfl rfl (Nat.le_of_ble_eq_true rfl) (cp_X11_isIn G d X M x1 0 2 (by decide) (by decide)) ?_
  refine wp_ifB_eq (inferInstance) (tgt := 28) dX11_why_9 (by decide) (fun c1 => ?_) (fun c1 => ?_)
  · replace h := h.1 c1
    refine wp_ldc dX11_why_28 kc_RX11_100 ?_
    exact wn_iret dX11_why_30 rfl h
  · replace h := h.2 c1
    refine wp_iload_n 1 dX11_why_12 rfl rfl ?_
    refine wp_if_ne (tgt := 31) dX11_why_13 (by decide) (fun c2 => ?_) (fun c2 => ?_)
    · replace h := h.1 c2
      refine wp_aload_n 0 dX11_why_31 rfl rfl ?_
      refine wp_iload_n 1 dX11_why_32 rfl rfl ?_
      have K4 : Wp G m_X11_why (d + 1) 0 0 0 0 43 [(0, .ref a), (1, .int x1), (2, .int x2)] [.int ((if x1 = 0 then x2 else (x1 + 5))), .ref a] X M (fun X2 M2 v => X2 = X ∧ ∃ x, v = some (.int x) ∧ Q M2 x) := by
        obtain ⟨q5, o6, h⟩ := h
        refine wp_cvi dX11_why_43 ck_RX11_165 (sh10_K hS) (as := [.int ((if x1 = 0 then x2 else (x1 + 5)))]) rfl rfl (Nat.le_of_ble_eq_true rfl) o6 (fun M7 r8 o9 => ?_)
        replace h := h M7 r8 o9
        refine wp_csip dX11_why_46 ck_RX11_216 rfl (as := [.int r8]) rfl rfl (Nat.le_of_ble_eq_true rfl) (cp_X11_orNone G d X M7 r8) ?_
        exact wn_iret dX11_why_49 rfl h
      refine wp_if_ne (tgt := 40) dX11_why_33 (by decide) (fun c3 => ?_) (fun c3 => ?_)
      · refine wp_iload_n 1 dX11_why_40 rfl rfl ?_
        refine wp_iconst (v := 5) dX11_why_41 rfl ?_
        refine wp_iadd dX11_why_42 ?_
        rw [if_neg c3] at K4
        exact K4
      · refine wp_iload_n 2 dX11_why_36 rfl rfl ?_
        refine wp_goto (tgt := 43) dX11_why_37 (by decide) ?_
        rw [if_pos c3] at K4
        exact K4
    · replace h := h.2 c2
      refine wp_iload_n 2 dX11_why_16 rfl rfl ?_
      refine wp_i2l dX11_why_17 ?_
      refine wp_lconst (v := 0) dX11_why_18 rfl ?_
      refine wp_ldc2 dX11_why_19 kc_RX11_96 ?_
      refine wp_csip dX11_why_22 ck_RX11_78 rfl (as := [.long x2.toInt64, .long 0, .long 5]) rfl rfl (Nat.le_of_ble_eq_true rfl) (cp_X11_isIn G d X M x2 0 5 (by decide) (by decide)) ?_
      refine wp_ifB_ne (inferInstance) (tgt := 31) dX11_why_25 (by decide) (fun c10 => ?_) (fun c10 => ?_)
      · replace h := h.1 c10
        refine wp_aload_n 0 dX11_why_31 rfl rfl ?_
        refine wp_iload_n 1 dX11_why_32 rfl rfl ?_
        have K12 : Wp G m_X11_why (d + 1) 0 0 0 0 43 [(0, .ref a), (1, .int x1), (2, .int x2)] [.int ((if x1 = 0 then x2 else (x1 + 5))), .ref a] X M (fun X2 M2 v => X2 = X ∧ ∃ x, v = some (.int x) ∧ Q M2 x) := by
          obtain ⟨q13, o14, h⟩ := h
          refine wp_cvi dX11_why_43 ck_RX11_165 (sh10_K hS) (as := [.int ((if x1 = 0 then x2 else (x1 + 5)))]) rfl rfl (Nat.le_of_ble_eq_true rfl) o14 (fun M15 r16 o17 => ?_)
          replace h := h M15 r16 o17
          refine wp_csip dX11_why_46 ck_RX11_216 rfl (as := [.int r16]) rfl rfl (Nat.le_of_ble_eq_true rfl) (cp_X11_orNone G d X M15 r16) ?_
          exact wn_iret dX11_why_49 rfl h
        refine wp_if_ne (tgt := 40) dX11_why_33 (by decide) (fun c11 => ?_) (fun c11 => ?_)
        · refine wp_iload_n 1 dX11_why_40 rfl rfl ?_
          refine wp_iconst (v := 5) dX11_why_41 rfl ?_
          refine wp_iadd dX11_why_42 ?_
          rw [if_neg c11] at K12
          exact K12
        · refine wp_iload_n 2 dX11_why_36 rfl rfl ?_
          refine wp_goto (tgt := 43) dX11_why_37 (by decide) ?_
          rw [if_pos c11] at K12
          exact K12
      · replace h := h.2 c10
        refine wp_ldc dX11_why_28 kc_RX11_100 ?_
        exact wn_iret dX11_why_30 rfl h
theorem case_why (G : Gl) (d : Nat) (hd : 8 ≤ d) (X : Sh) (b m : Nat) (hS : Sh9 X b) (hM : Sh10 X m) (x1 x2 : Int32) : Case G d X b m m_X10_why m_X11_why [.int x1, .int x2] := by
  obtain ⟨d, rfl⟩ : ∃ d1, d = d1 + 1 := ⟨d - 1, by omega⟩
  refine Case.pure (fun M nb nl nx nt nd la hh hr => ?_)
  obtain ⟨hW, hB, hF, hT, hD, hR⟩ := id hh
  obtain ⟨w0, w1, w2, w3, w4, w5, w6, w7, w8, w9, wb, wf, _⟩ := id hW
  have hS9 := sh2_S_texts (sh9_S_house hS)
  by_cases h : 0 ≤ x1 ∧ x1 ≤ 2
  · obtain ⟨k, hk, rfl⟩ := ix_le (nb := 2) (by omega) h.1 h.2
    have orn : ∀ r : Int32, (0 ≤ r → r = f_orNone r) ∧ (¬ 0 ≤ r → (-1000000005 : Int32) = f_orNone r) := fun r => by
      unfold f_orNone
      exact ⟨fun q => (if_neg (i_nlt.mpr q)).symm, fun q => (if_pos (i_nle.mp q)).symm⟩
    by_cases k0 : k = 0
    · subst k0
      by_cases h2 : 0 ≤ x2 ∧ x2 ≤ 5
      · obtain ⟨v, hv, rfl⟩ := ix_le (nb := 5) (by omega) h2.1 h2.2
        refine ⟨f_orNone (s_counts (mI M (m + 1)) (nI v) nx), Cn.of (by decide) (Nat.le_of_ble_eq_true rfl) (bX10_why_0 hS ⟨fun q => absurd h q, fun _ => ⟨fun q => absurd rfl q, fun _ => ⟨fun _ => ⟨_, cp_X9_lastOf G d X M (b + 1 + 62) nx v 0 (nI v) (mI M (m + 1)) hS9 w5 hT (Or.inl ⟨hv, rfl, rfl⟩), ?_⟩, fun q => absurd h2 q⟩⟩⟩), Cn.of (by decide) (Nat.le_of_ble_eq_true rfl) (bX11_why_0 hM ⟨fun q => absurd h q, fun _ => ⟨fun q => absurd rfl q, fun _ => ⟨fun _ => ⟨_, cp_X11_counts G d (by omega) X M m nx (nI v) hM w4 w5, ?_⟩, fun q => absurd h2 q⟩⟩⟩)⟩
        · rintro M5 r6 ⟨e, e6⟩
          refine ⟨fun q => ⟨e, ?_⟩, fun q => ⟨e, ?_⟩⟩
          · rw [← e6]
            exact (orn r6).1 q
          · rw [← e6]
            exact (orn r6).2 q
        · rintro M5 r6 ⟨e, e6⟩
          exact ⟨e, by rw [e6]⟩
      · exact ⟨-1000000001, Cn.of (by decide) (Nat.le_of_ble_eq_true rfl) (bX10_why_0 hS ⟨fun q => absurd h q, fun _ => ⟨fun q => absurd rfl q, fun _ => ⟨fun q => absurd q h2, fun _ => ⟨rfl, rfl⟩⟩⟩⟩), Cn.of (by decide) (Nat.le_of_ble_eq_true rfl) (bX11_why_0 hM ⟨fun q => absurd h q, fun _ => ⟨fun q => absurd rfl q, fun _ => ⟨fun q => absurd q h2, fun _ => ⟨rfl, rfl⟩⟩⟩⟩)⟩
    · have n0 : ¬ nI k = 0 := fun q => k0 ((nI_inj (b := 0) (by omega) (by omega)).mp q)
      have lk : LK (nI k) x2 (k + 5) := by
        have : k = 1 ∨ k = 2 := by omega
        rcases this with rfl | rfl
        · exact Or.inr (Or.inl ⟨rfl, rfl⟩)
        · exact Or.inr (Or.inr ⟨rfl, rfl⟩)
      have ek : (if nI k = 0 then x2 else nI k + 5) = nI (k + 5) := by
        rw [if_neg n0, n_lit 5, nI_add]
      refine ⟨f_orNone (s_counts (mI M (m + 1)) (nI (k + 5)) nx), Cn.of (by decide) (Nat.le_of_ble_eq_true rfl) (bX10_why_0 hS ⟨fun q => absurd h q, fun _ => ⟨fun _ => ⟨_, cp_X9_lastOf G d X M (b + 1 + 62) nx (k + 5) (nI k) x2 (mI M (m + 1)) hS9 w5 hT lk, ?_⟩, fun q => absurd q n0⟩⟩), Cn.of (by decide) (Nat.le_of_ble_eq_true rfl) (bX11_why_0 hM ⟨fun q => absurd h q, fun _ => ⟨fun _ => ⟨_, by rw [ek]; exact cp_X11_counts G d (by omega) X M m nx (nI (k + 5)) hM w4 w5, ?_⟩, fun q => absurd q n0⟩⟩)⟩
      · rintro M5 r6 ⟨e, e6⟩
        refine ⟨fun q => ⟨e, ?_⟩, fun q => ⟨e, ?_⟩⟩
        · rw [← e6]
          exact (orn r6).1 q
        · rw [← e6]
          exact (orn r6).2 q
      · rintro M5 r6 ⟨e, e6⟩
        exact ⟨e, by rw [e6]⟩
  · exact ⟨-1000000001, Cn.of (by decide) (Nat.le_of_ble_eq_true rfl) (bX10_why_0 hS ⟨fun _ => ⟨rfl, rfl⟩, fun q => absurd q h⟩), Cn.of (by decide) (Nat.le_of_ble_eq_true rfl) (bX11_why_0 hM ⟨fun _ => ⟨rfl, rfl⟩, fun q => absurd q h⟩)⟩
theorem bX10_ask_0 {G : Gl} {d : Nat} {X : Sh} {M : Mm} {Q : Mm → Int32 → Prop} {a : Nat} {x1 : Int32} {x2 : Int32} (hS : Sh9 X a) (hd : 1 ≤ d) (h : ((¬ (0 ≤ x1 ∧ x1 ≤ 4) → Q M (-1000000001)) ∧ (0 ≤ x1 ∧ x1 ≤ 4 → ((0 ≤ x2 ∧ x2 ≤ 5 → (∃ j3 : Nat, x1 = nI j3 ∧ j3 < 5 ∧ ((¬ ((mI M (a + 245 + 4 * j3) 0) = 0) → ((¬ ((mI M (a + 245 + 4 * j3) 0) = 1) → Q M (-1000000012)) ∧ ((mI M (a + 245 + 4 * j3) 0) = 1 → (∃ q8 : Mm → Int32 → Prop, Cn G m_X7_isOf d [.int ((mI M (a + 245 + 4 * j3) 1)), .int x2] X M q8 ∧ ∀ M10 r11, q8 M10 r11 → ((¬ (r11 = 0) → Q M10 (f_acid (mI M10 (a + 245 + 4 * j3) 1) (mI M10 (a + 245 + 4 * j3) 2) 100)) ∧ (r11 = 0 → Q M10 (-1000000012))))))) ∧ ((mI M (a + 245 + 4 * j3) 0) = 0 → Q M (-1000000011))))) ∧ (¬ (0 ≤ x2 ∧ x2 ≤ 5) → Q M (-1000000001)))))) : Wn G m_X10_ask (d + 1) 0 [(0, .ref a), (1, .int x1), (2, .int x2)] [] X M Q := by
  refine wp_iload_n 1 dX10_ask_0 rfl rfl ?_
  refine wp_csip dX10_ask_1 ck_RX10_314 rfl (as := [.int x1]) rfl rfl (Nat.le_of_ble_eq_true rfl) (cp_X10_isSlot G d (by omega) X M x1) ?_
  refine wp_ifB_eq (inferInstance) (tgt := 14) dX10_ask_4 (by decide) (fun c1 => ?_) (fun c1 => ?_)
  · replace h := h.1 c1
    refine wp_ldc dX10_ask_14 kc_RX10_67 ?_
    exact wn_iret dX10_ask_16 rfl h
  · replace h := h.2 c1
    refine wp_iload_n 2 dX10_ask_7 rfl rfl ?_
    refine wp_csip dX10_ask_8 ck_RX10_59 rfl (as := [.int x2]) rfl rfl (Nat.le_of_ble_eq_true rfl) (cp_X10_isKind G d (by omega) X M x2) ?_
    refine wp_ifB_ne (inferInstance) (tgt := 17) dX10_ask_11 (by decide) (fun c2 => ?_) (fun c2 => ?_)
    · replace h := h.1 c2
      refine wp_aload_n 0 dX10_ask_17 rfl rfl ?_
      refine wp_getR dX10_ask_18 fl_RX10_46 rfl (sh9_K hS) (sh9_F_slots hS) ?_
      refine wp_iload_n 1 dX10_ask_21 rfl rfl ?_
      obtain ⟨j3, o4, o5, h⟩ := h
      refine wp_fald (n := 5) dX10_ask_22 (Or.inr <| Or.inl (sh9_K_slots hS)) (sh9_N_slots hS) (by decide) o4 o5 (sh9_E_slots hS j3 o5) ?_
      refine wp_astore_n (lo2 := [(3, .ref _), (0, .ref _), (1, .int _), (2, .int _)]) dX10_ask_23 rfl (by decide) rfl ?_
      refine wp_aload_n 0 dX10_ask_24 rfl rfl ?_
      refine wp_getI dX10_ask_25 fl_RX10_317 rfl (sh6_K (sh9_ES_slots hS j3 o5)) ?_
      refine wp_if_ne (tgt := 35) dX10_ask_28 (by decide) (fun c6 => ?_) (fun c6 => ?_)
      · replace h := h.1 c6
        refine wp_aload_n 0 dX10_ask_35 rfl rfl ?_
        refine wp_getI dX10_ask_36 fl_RX10_317 rfl (sh6_K (sh9_ES_slots hS j3 o5)) ?_
        refine wp_iconst (v := 1) dX10_ask_39 rfl ?_
        refine wp_icmp_ne (tgt := 54) dX10_ask_40 (by decide) (fun c7 => ?_) (fun c7 => ?_)
        · replace h := h.1 c7
          refine wp_ldc dX10_ask_54 kc_RX10_110 ?_
          exact wn_iret dX10_ask_56 rfl h
        · replace h := h.2 c7
          refine wp_aload_n 0 dX10_ask_43 rfl rfl ?_
          refine wp_getI dX10_ask_44 fl_RX10_320 rfl (sh6_K (sh9_ES_slots hS j3 o5)) ?_
          refine wp_iload_n 3 dX10_ask_47 rfl rfl ?_
          obtain ⟨q8, o9, h⟩ := h
          refine wp_csi dX10_ask_48 ck_RX10_106 rfl (as := [.int ((mI M (a + 245 + 4 * j3) 1)), .int x2]) rfl rfl (Nat.le_of_ble_eq_true rfl) o9 (fun M10 r11 o12 => ?_)
          replace h := h M10 r11 o12
          refine wp_if_ne (tgt := 57) dX10_ask_51 (by decide) (fun c13 => ?_) (fun c13 => ?_)
          · replace h := h.1 c13
            refine wp_aload_n 0 dX10_ask_57 rfl rfl ?_
            refine wp_getI dX10_ask_58 fl_RX10_320 rfl (sh6_K (sh9_ES_slots hS j3 o5)) ?_
            refine wp_aload_n 0 dX10_ask_61 rfl rfl ?_
            refine wp_getI dX10_ask_62 fl_RX10_322 rfl (sh6_K (sh9_ES_slots hS j3 o5)) ?_
            refine wp_bipush (v := 100) dX10_ask_65 rfl ?_
            refine wp_csip dX10_ask_67 ck_RX10_334 rfl (as := [.int ((mI M10 (a + 245 + 4 * j3) 1)), .int ((mI M10 (a + 245 + 4 * j3) 2)), .int 100]) rfl rfl (Nat.le_of_ble_eq_true rfl) (cp_X7_acidOf G d (by omega) X M10 (mI M10 (a + 245 + 4 * j3) 1) (mI M10 (a + 245 + 4 * j3) 2) 100) ?_
            exact wn_iret dX10_ask_70 rfl h
          · replace h := h.2 c13
            refine wp_ldc dX10_ask_54 kc_RX10_110 ?_
            exact wn_iret dX10_ask_56 rfl h
      · replace h := h.2 c6
        refine wp_ldcw dX10_ask_31 kc_RX10_281 ?_
        exact wn_iret dX10_ask_34 rfl h
    · replace h := h.2 c2
      refine wp_ldc dX10_ask_14 kc_RX10_67 ?_
      exact wn_iret dX10_ask_16 rfl h
theorem bX11_ask_0 {G : Gl} {d : Nat} {X : Sh} {M : Mm} {Q : Mm → Int32 → Prop} {a : Nat} {x1 : Int32} {x2 : Int32} (hS : Sh10 X a) (hd : 1 ≤ d) (h : ((¬ (0 ≤ x1 ∧ x1 ≤ 4) → Q M (-1000000001)) ∧ (0 ≤ x1 ∧ x1 ≤ 4 → ((0 ≤ x2 ∧ x2 ≤ 5 → (∃ j3 : Nat, x1 = nI j3 ∧ j3 < 5 ∧ ((¬ ((mI M (a + 7) j3) = 0) → ((¬ ((mI M (a + 7) j3) = 1) → Q M (-1000000012)) ∧ ((mI M (a + 7) j3) = 1 → ((¬ (p_isOf (mI M (a + 8) j3) x2) → Q M (-1000000012)) ∧ (p_isOf (mI M (a + 8) j3) x2 → Q M (g_acid (mI M (a + 8) j3) (mI M (a + 9) j3) 100)))))) ∧ ((mI M (a + 7) j3) = 0 → Q M (-1000000011))))) ∧ (¬ (0 ≤ x2 ∧ x2 ≤ 5) → Q M (-1000000001)))))) : Wn G m_X11_ask (d + 1) 0 [(0, .ref a), (1, .int x1), (2, .int x2)] [] X M Q := by
  refine wp_iload_n 1 dX11_ask_0 rfl rfl ?_
  refine wp_csip dX11_ask_1 ck_RX11_332 rfl (as := [.int x1]) rfl rfl (Nat.le_of_ble_eq_true rfl) (cp_X11_isSlot G d (by omega) X M x1) ?_
  refine wp_ifB_eq (inferInstance) (tgt := 19) dX11_ask_4 (by decide) (fun c1 => ?_) (fun c1 => ?_)
  · replace h := h.1 c1
    refine wp_ldc dX11_ask_19 kc_RX11_100 ?_
    exact wn_iret dX11_ask_21 rfl h
  · replace h := h.2 c1
    refine wp_iload_n 2 dX11_ask_7 rfl rfl ?_
    refine wp_i2l dX11_ask_8 ?_
    refine wp_lconst (v := 0) dX11_ask_9 rfl ?_
    refine wp_ldc2 dX11_ask_10 kc_RX11_96 ?_
    refine wp_csip dX11_ask_13 ck_RX11_78 rfl (as := [.long x2.toInt64, .long 0, .long 5]) rfl rfl (Nat.le_of_ble_eq_true rfl) (cp_X11_isIn G d X M x2 0 5 (by decide) (by decide)) ?_
    refine wp_ifB_ne (inferInstance) (tgt := 22) dX11_ask_16 (by decide) (fun c2 => ?_) (fun c2 => ?_)
    · replace h := h.1 c2
      refine wp_aload_n 0 dX11_ask_22 rfl rfl ?_
      refine wp_getR dX11_ask_23 fl_RX11_28 rfl (sh10_K hS) (sh10_F_held hS) ?_
      refine wp_iload_n 1 dX11_ask_26 rfl rfl ?_
      obtain ⟨j3, o4, o5, h⟩ := h
      refine wp_iald (n := 5) dX11_ask_27 (sh10_K_held hS) (sh10_N_held hS) (by decide) o4 o5 ?_
      refine wp_if_ne (tgt := 35) dX11_ask_28 (by decide) (fun c6 => ?_) (fun c6 => ?_)
      · replace h := h.1 c6
        refine wp_aload_n 0 dX11_ask_35 rfl rfl ?_
        refine wp_getR dX11_ask_36 fl_RX11_28 rfl (sh10_K hS) (sh10_F_held hS) ?_
        refine wp_iload_n 1 dX11_ask_39 rfl rfl ?_
        refine wp_iald (n := 5) dX11_ask_40 (sh10_K_held hS) (sh10_N_held hS) (by decide) o4 o5 ?_
        refine wp_iconst (v := 1) dX11_ask_41 rfl ?_
        refine wp_icmp_ne (tgt := 78) dX11_ask_42 (by decide) (fun c7 => ?_) (fun c7 => ?_)
        · replace h := h.1 c7
          refine wp_ldc dX11_ask_78 kc_RX11_124 ?_
          exact wn_iret dX11_ask_80 rfl h
        · replace h := h.2 c7
          refine wp_aload_n 0 dX11_ask_45 rfl rfl ?_
          refine wp_getR dX11_ask_46 fl_RX11_31 rfl (sh10_K hS) (sh10_F_heldNumber hS) ?_
          refine wp_iload_n 1 dX11_ask_49 rfl rfl ?_
          refine wp_iald (n := 5) dX11_ask_50 (sh10_K_heldNumber hS) (sh10_N_heldNumber hS) (by decide) o4 o5 ?_
          refine wp_iload_n 2 dX11_ask_51 rfl rfl ?_
          refine wp_csip dX11_ask_52 ck_RX11_120 rfl (as := [.int ((mI M (a + 8) j3)), .int x2]) rfl rfl (Nat.le_of_ble_eq_true rfl) (cp_X11_isOf G d X M (mI M (a + 8) j3) x2) ?_
          refine wp_ifB_eq (inferInstance) (tgt := 78) dX11_ask_55 (by decide) (fun c8 => ?_) (fun c8 => ?_)
          · replace h := h.1 c8
            refine wp_ldc dX11_ask_78 kc_RX11_124 ?_
            exact wn_iret dX11_ask_80 rfl h
          · replace h := h.2 c8
            refine wp_aload_n 0 dX11_ask_58 rfl rfl ?_
            refine wp_getR dX11_ask_59 fl_RX11_31 rfl (sh10_K hS) (sh10_F_heldNumber hS) ?_
            refine wp_iload_n 1 dX11_ask_62 rfl rfl ?_
            refine wp_iald (n := 5) dX11_ask_63 (sh10_K_heldNumber hS) (sh10_N_heldNumber hS) (by decide) o4 o5 ?_
            refine wp_aload_n 0 dX11_ask_64 rfl rfl ?_
            refine wp_getR dX11_ask_65 fl_RX11_34 rfl (sh10_K hS) (sh10_F_heldShare hS) ?_
            refine wp_iload_n 1 dX11_ask_68 rfl rfl ?_
            refine wp_iald (n := 5) dX11_ask_69 (sh10_K_heldShare hS) (sh10_N_heldShare hS) (by decide) o4 o5 ?_
            refine wp_bipush (v := 100) dX11_ask_70 rfl ?_
            refine wp_csip dX11_ask_72 ck_RX11_90 rfl (as := [.int ((mI M (a + 8) j3)), .int ((mI M (a + 9) j3)), .int 100]) rfl rfl (Nat.le_of_ble_eq_true rfl) (cp_X11_acidOf G d (by omega) X M (mI M (a + 8) j3) (mI M (a + 9) j3) 100) ?_
            refine wp_goto (tgt := 80) dX11_ask_75 (by decide) ?_
            exact wn_iret dX11_ask_80 rfl h
      · replace h := h.2 c6
        refine wp_ldcw dX11_ask_31 kc_RX11_328 ?_
        exact wn_iret dX11_ask_34 rfl h
    · replace h := h.2 c2
      refine wp_ldc dX11_ask_19 kc_RX11_100 ?_
      exact wn_iret dX11_ask_21 rfl h
theorem case_ask (G : Gl) (d : Nat) (hd : 8 ≤ d) (X : Sh) (b m : Nat) (hS : Sh9 X b) (hM : Sh10 X m) (x1 x2 : Int32) : Case G d X b m m_X10_ask m_X11_ask [.int x1, .int x2] := by
  obtain ⟨d, rfl⟩ : ∃ d1, d = d1 + 1 := ⟨d - 1, by omega⟩
  refine Case.pure (fun M nb nl nx nt nd la hh hr => ?_)
  obtain ⟨_, _, _, _, hl, _⟩ := hr
  by_cases h : 0 ≤ x1 ∧ x1 ≤ 4
  · by_cases h2 : 0 ≤ x2 ∧ x2 ≤ 5
    · obtain ⟨i, hi, rfl⟩ := ix_le (nb := 4) (by omega) h.1 h.2
      obtain ⟨o, ho, rfl⟩ := ix_le (nb := 5) (by omega) h2.1 h2.2
      obtain ⟨s0, ⟨v, hv, s1⟩, s2, s3, s4⟩ := hl i (by omega)
      by_cases h3 : mI M (m + 7) i = 1
      · obtain ⟨t1, t2, k, sh, hk, hsh, t3, t4⟩ := s2 h3
        have n0 : ¬ mI M (m + 7) i = 0 := by
          rw [h3]
          decide
        have c1 : mI M (b + 245 + 4 * i) 0 = 1 := s0.trans h3
        have c0 : ¬ mI M (b + 245 + 4 * i) 0 = 0 := by
          rw [c1]
          decide
        have ck := t1.trans t3
        have cs := t2.trans t4
        have fa : f_acid (nI k) (nI sh) 100 = g_acid (nI k) (nI sh) 100 := fg_acid (t := 100) hk hsh (by omega)
        by_cases hp : p_isOf (nI k) (nI o)
        · refine ⟨f_acid (nI k) (nI sh) 100, Cn.of (by decide) (Nat.le_of_ble_eq_true rfl) (bX10_ask_0 hS (by omega) ⟨fun q => absurd h q, fun _ => ⟨fun _ => ⟨i, rfl, by omega, fun _ => ⟨fun q => absurd c1 q, fun _ => ⟨_, by rw [ck]; exact cp_X7_isOf G d X M k o hk ho, ?_⟩⟩, fun q => absurd q c0⟩, fun q => absurd h2 q⟩⟩), Cn.of (by decide) (Nat.le_of_ble_eq_true rfl) (bX11_ask_0 hM (by omega) ⟨fun q => absurd h q, fun _ => ⟨fun _ => ⟨i, rfl, by omega, fun _ => ⟨fun q => absurd h3 q, fun _ => ⟨fun q => absurd (by rw [t3]; exact hp) q, fun _ => ⟨rfl, by rw [t3, t4, fa]⟩⟩⟩, fun q => absurd q n0⟩, fun q => absurd h2 q⟩⟩)⟩
          rintro M10 r11 ⟨e, e11⟩
          have e := e.symm
          subst e
          rw [if_pos hp] at e11
          exact ⟨fun _ => ⟨rfl, by rw [ck, cs]⟩, fun q => absurd (q.symm.trans e11) (by decide)⟩
        · refine ⟨-1000000012, Cn.of (by decide) (Nat.le_of_ble_eq_true rfl) (bX10_ask_0 hS (by omega) ⟨fun q => absurd h q, fun _ => ⟨fun _ => ⟨i, rfl, by omega, fun _ => ⟨fun q => absurd c1 q, fun _ => ⟨_, by rw [ck]; exact cp_X7_isOf G d X M k o hk ho, ?_⟩⟩, fun q => absurd q c0⟩, fun q => absurd h2 q⟩⟩), Cn.of (by decide) (Nat.le_of_ble_eq_true rfl) (bX11_ask_0 hM (by omega) ⟨fun q => absurd h q, fun _ => ⟨fun _ => ⟨i, rfl, by omega, fun _ => ⟨fun q => absurd h3 q, fun _ => ⟨fun _ => ⟨rfl, rfl⟩, fun q => absurd (by rw [t3] at q; exact q) hp⟩⟩, fun q => absurd q n0⟩, fun q => absurd h2 q⟩⟩)⟩
          rintro M10 r11 ⟨e, e11⟩
          have e := e.symm
          subst e
          rw [if_neg hp] at e11
          exact ⟨fun q => absurd e11 q, fun _ => ⟨rfl, rfl⟩⟩
      · by_cases h0 : mI M (m + 7) i = 0
        · exact ⟨-1000000011, Cn.of (by decide) (Nat.le_of_ble_eq_true rfl) (bX10_ask_0 hS (by omega) ⟨fun q => absurd h q, fun _ => ⟨fun _ => ⟨i, rfl, by omega, fun q => absurd (s0.trans h0) q, fun _ => ⟨rfl, rfl⟩⟩, fun q => absurd h2 q⟩⟩), Cn.of (by decide) (Nat.le_of_ble_eq_true rfl) (bX11_ask_0 hM (by omega) ⟨fun q => absurd h q, fun _ => ⟨fun _ => ⟨i, rfl, by omega, fun q => absurd h0 q, fun _ => ⟨rfl, rfl⟩⟩, fun q => absurd h2 q⟩⟩)⟩
        · exact ⟨-1000000012, Cn.of (by decide) (Nat.le_of_ble_eq_true rfl) (bX10_ask_0 hS (by omega) ⟨fun q => absurd h q, fun _ => ⟨fun _ => ⟨i, rfl, by omega, fun _ => ⟨fun _ => ⟨rfl, rfl⟩, fun q => absurd (s0.symm.trans q) h3⟩, fun q => absurd (s0.symm.trans q) h0⟩, fun q => absurd h2 q⟩⟩), Cn.of (by decide) (Nat.le_of_ble_eq_true rfl) (bX11_ask_0 hM (by omega) ⟨fun q => absurd h q, fun _ => ⟨fun _ => ⟨i, rfl, by omega, fun _ => ⟨fun _ => ⟨rfl, rfl⟩, fun q => absurd q h3⟩, fun q => absurd q h0⟩, fun q => absurd h2 q⟩⟩)⟩
    · exact ⟨-1000000001, Cn.of (by decide) (Nat.le_of_ble_eq_true rfl) (bX10_ask_0 hS (by omega) ⟨fun q => absurd h q, fun _ => ⟨fun q => absurd q h2, fun _ => ⟨rfl, rfl⟩⟩⟩), Cn.of (by decide) (Nat.le_of_ble_eq_true rfl) (bX11_ask_0 hM (by omega) ⟨fun q => absurd h q, fun _ => ⟨fun q => absurd q h2, fun _ => ⟨rfl, rfl⟩⟩⟩)⟩
  · exact ⟨-1000000001, Cn.of (by decide) (Nat.le_of_ble_eq_true rfl) (bX10_ask_0 hS (by omega) ⟨fun _ => ⟨rfl, rfl⟩, fun q => absurd q h⟩), Cn.of (by decide) (Nat.le_of_ble_eq_true rfl) (bX11_ask_0 hM (by omega) ⟨fun _ => ⟨rfl, rfl⟩, fun q => absurd q h⟩)⟩
theorem bX0_add_0 {G : Gl} {d : Nat} {X : Sh} {M : Mm} {Q : Mm → Int32 → Prop} {a : Nat} {x1 : Int32} {x2 : Int32} {x3 : Int32} (hS : Sh0 X a) (h : (((mI M a 5) < 6 → (∀ v2 : Int32, v2 = (mI M a 5) → (∃ j3 : Nat, v2 = nI j3 ∧ j3 < 6 ∧ (∀ M6 : Mm, M6 = sI M (a + 1) j3 x1 → (∀ M7 : Mm, M7 = sI M6 (a + 2) j3 (x2 / 100) → (∀ M8 : Mm, M8 = sI M7 (a + 3) j3 (x2 - x2 / 100 * 100) → (∀ M9 : Mm, M9 = sI M8 (a + 4) j3 x3 → (∀ M10 : Mm, M10 = sI M9 (a + 5) j3 22222 → (∀ M11 : Mm, M11 = sI M10 a 5 ((mI M10 a 5) + 1) → Q M11 v2))))))))) ∧ (¬ ((mI M a 5) < 6) → Q M (-1000000003)))) : Wn G m_X0_add d 0 [(0, .ref a), (1, .int x1), (2, .int x2), (3, .int x3)] [] X M Q := by
  refine wp_aload_n 0 dX0_add_0 rfl rfl ?_
  refine wp_getI dX0_add_1 fl_RX0_27 rfl (sh0_K hS) ?_
  refine wp_bipush (v := 6) dX0_add_4 rfl ?_
  refine wp_icmp_lt (tgt := 12) dX0_add_6 (by decide) (fun c1 => ?_) (fun c1 => ?_)
  · replace h := h.1 c1
    refine wp_aload_n 0 dX0_add_12 rfl rfl ?_
    refine wp_getI dX0_add_13 fl_RX0_27 rfl (sh0_K hS) ?_
    refine wp_topi (fun v2 ev2 => ?_)
    replace h := h v2 ev2
    refine wp_istore (lo2 := [(4, .int _), (0, .ref _), (1, .int _), (2, .int _), (3, .int _)]) dX0_add_16 (by decide) rfl ?_
    refine wp_aload_n 1 dX0_add_18 rfl rfl ?_
    refine wp_getR dX0_add_19 fl_RX0_9 rfl (sh0_K hS) (sh0_F_kind hS) ?_
    refine wp_iload 0 dX0_add_22 rfl ?_
    refine wp_iload_n 2 dX0_add_24 rfl rfl ?_
    obtain ⟨j3, o4, o5, h⟩ := h
    refine wp_iast (n := 6) dX0_add_25 (sh0_K_kind hS) (sh0_N_kind hS) (by decide) o4 o5 ?_
    refine wp_nm (fun M6 eM6 => ?_)
    replace h := h M6 eM6
    refine wp_aload_n 1 dX0_add_26 rfl rfl ?_
    refine wp_getR dX0_add_27 fl_RX0_15 rfl (sh0_K hS) (sh0_F_share hS) ?_
    refine wp_iload 0 dX0_add_30 rfl ?_
    refine wp_iload_n 3 dX0_add_32 rfl rfl ?_
    refine wp_bipush (v := 100) dX0_add_33 rfl ?_
    refine wp_idiv dX0_add_35 (by decide) ?_
    refine wp_iast (n := 6) dX0_add_36 (sh0_K_share hS) (sh0_N_share hS) (by decide) o4 o5 ?_
    refine wp_nm (fun M7 eM7 => ?_)
    replace h := h M7 eM7
    refine wp_aload_n 1 dX0_add_37 rfl rfl ?_
    refine wp_getR dX0_add_38 fl_RX0_18 rfl (sh0_K hS) (sh0_F_price hS) ?_
    refine wp_iload 0 dX0_add_41 rfl ?_
    refine wp_iload_n 3 dX0_add_43 rfl rfl ?_
    refine wp_bipush (v := 100) dX0_add_44 rfl ?_
    refine wp_irem dX0_add_46 (by decide) ?_
    refine wp_iast (n := 6) dX0_add_47 (sh0_K_price hS) (sh0_N_price hS) (by decide) o4 o5 ?_
    refine wp_nm (fun M8 eM8 => ?_)
    replace h := h M8 eM8
    refine wp_aload_n 1 dX0_add_48 rfl rfl ?_
    refine wp_getR dX0_add_49 fl_RX0_21 rfl (sh0_K hS) (sh0_F_tons hS) ?_
    refine wp_iload 0 dX0_add_52 rfl ?_
    refine wp_iload_n 4 dX0_add_54 rfl rfl ?_
    refine wp_iast (n := 6) dX0_add_55 (sh0_K_tons hS) (sh0_N_tons hS) (by decide) o4 o5 ?_
    refine wp_nm (fun M9 eM9 => ?_)
    replace h := h M9 eM9
    refine wp_aload_n 1 dX0_add_56 rfl rfl ?_
    refine wp_getR dX0_add_57 fl_RX0_24 rfl (sh0_K hS) (sh0_F_turns hS) ?_
    refine wp_iload 0 dX0_add_60 rfl ?_
    refine wp_sipush (v := 22222) dX0_add_62 rfl ?_
    refine wp_iast (n := 6) dX0_add_65 (sh0_K_turns hS) (sh0_N_turns hS) (by decide) o4 o5 ?_
    refine wp_nm (fun M10 eM10 => ?_)
    replace h := h M10 eM10
    refine wp_aload_n 1 dX0_add_66 rfl rfl ?_
    refine wp_dup dX0_add_67 rfl ?_
    refine wp_getI dX0_add_68 fl_RX0_27 rfl (sh0_K hS) ?_
    refine wp_iconst (v := 1) dX0_add_71 rfl ?_
    refine wp_iadd dX0_add_72 ?_
    refine wp_putI dX0_add_73 fp_RX0_27 rfl (sh0_K hS) ?_
    refine wp_nm (fun M11 eM11 => ?_)
    replace h := h M11 eM11
    refine wp_iload 0 dX0_add_76 rfl ?_
    exact wn_iret dX0_add_78 rfl h
  · replace h := h.2 c1
    refine wp_ldc dX0_add_9 kc_RX0_43 ?_
    exact wn_iret dX0_add_11 rfl h
theorem bX10_bin_0 {G : Gl} {d : Nat} {X : Sh} {M : Mm} {Q : Mm → Int32 → Prop} {a : Nat} {x1 : Int32} {x2 : Int32} {x3 : Int32} (hS : Sh9 X a) (hd : 1 ≤ d) (h : ((¬ (0 ≤ x1 ∧ x1 ≤ 5) → Q M (-1000000001)) ∧ (0 ≤ x1 ∧ x1 ≤ 5 → ((¬ (0 ≤ x2 ∧ x2 ≤ 9999) → Q M (-1000000001)) ∧ (0 ≤ x2 ∧ x2 ≤ 9999 → ((0 ≤ x3 ∧ x3 ≤ 9999 → (∃ q4 : Mm → Int32 → Prop, Cn G m_X0_add d [.ref ((a + 1) + 1), .int x1, .int x2, .int x3] X M q4 ∧ ∀ M6 r7, q4 M6 r7 → Q M6 r7)) ∧ (¬ (0 ≤ x3 ∧ x3 ≤ 9999) → Q M (-1000000001)))))))) : Wn G m_X10_bin (d + 1) 0 [(0, .ref a), (1, .int x1), (2, .int x2), (3, .int x3)] [] X M Q := by
  refine wp_iload_n 1 dX10_bin_0 rfl rfl ?_
  refine wp_csip dX10_bin_1 ck_RX10_59 rfl (as := [.int x1]) rfl rfl (Nat.le_of_ble_eq_true rfl) (cp_X10_isKind G d (by omega) X M x1) ?_
  refine wp_ifB_eq (inferInstance) (tgt := 29) dX10_bin_4 (by decide) (fun c1 => ?_) (fun c1 => ?_)
  · replace h := h.1 c1
    refine wp_ldc dX10_bin_29 kc_RX10_67 ?_
    exact wn_iret dX10_bin_31 rfl h
  · replace h := h.2 c1
    refine wp_iload_n 2 dX10_bin_7 rfl rfl ?_
    refine wp_iconst (v := 0) dX10_bin_8 rfl ?_
    refine wp_sipush (v := 9999) dX10_bin_9 rfl ?_
    refine wp_csip dX10_bin_12 ck_RX10_63 rfl (as := [.int x2, .int 0, .int 9999]) rfl rfl (Nat.le_of_ble_eq_true rfl) (cp_X10_isWithin G d X M x2 0 9999) ?_
    refine wp_ifB_eq (inferInstance) (tgt := 29) dX10_bin_15 (by decide) (fun c2 => ?_) (fun c2 => ?_)
    · replace h := h.1 c2
      refine wp_ldc dX10_bin_29 kc_RX10_67 ?_
      exact wn_iret dX10_bin_31 rfl h
    · replace h := h.2 c2
      refine wp_iload_n 3 dX10_bin_18 rfl rfl ?_
      refine wp_iconst (v := 0) dX10_bin_19 rfl ?_
      refine wp_sipush (v := 9999) dX10_bin_20 rfl ?_
      refine wp_csip dX10_bin_23 ck_RX10_63 rfl (as := [.int x3, .int 0, .int 9999]) rfl rfl (Nat.le_of_ble_eq_true rfl) (cp_X10_isWithin G d X M x3 0 9999) ?_
      refine wp_ifB_ne (inferInstance) (tgt := 32) dX10_bin_26 (by decide) (fun c3 => ?_) (fun c3 => ?_)
      · replace h := h.1 c3
        refine wp_aload_n 0 dX10_bin_32 rfl rfl ?_
        refine wp_getR dX10_bin_33 fl_RX10_10 rfl (sh9_K hS) (sh9_F_house hS) ?_
        refine wp_getR dX10_bin_36 fl_RX10_68 rfl (sh2_K (sh9_S_house hS)) (sh2_F_bins (sh9_S_house hS)) ?_
        refine wp_iload_n 1 dX10_bin_39 rfl rfl ?_
        refine wp_iload_n 2 dX10_bin_40 rfl rfl ?_
        refine wp_iload_n 3 dX10_bin_41 rfl rfl ?_
        obtain ⟨q4, o5, h⟩ := h
        refine wp_cvi dX10_bin_42 ck_RX10_72 (sh0_K (sh2_S_bins (sh9_S_house hS))) (as := [.int x1, .int x2, .int x3]) rfl rfl (Nat.le_of_ble_eq_true rfl) o5 (fun M6 r7 o8 => ?_)
        replace h := h M6 r7 o8
        exact wn_iret dX10_bin_45 rfl h
      · replace h := h.2 c3
        refine wp_ldc dX10_bin_29 kc_RX10_67 ?_
        exact wn_iret dX10_bin_31 rfl h
theorem bX11_bin_0 {G : Gl} {d : Nat} {X : Sh} {M : Mm} {Q : Mm → Int32 → Prop} {a : Nat} {x1 : Int32} {x2 : Int32} {x3 : Int32} (hS : Sh10 X a) (h : ((¬ (0 ≤ x1 ∧ x1 ≤ 5) → Q M (-1000000001)) ∧ (0 ≤ x1 ∧ x1 ≤ 5 → ((¬ (0 ≤ x2 ∧ x2 ≤ 9999) → Q M (-1000000001)) ∧ (0 ≤ x2 ∧ x2 ≤ 9999 → ((0 ≤ x3 ∧ x3 ≤ 9999 → ((¬ ((mI M (a + 1) 0) = 6) → (∀ v5 : Int32, v5 = (20 + 5 * (mI M (a + 1) 0)) → (∃ j6 : Nat, v5 = nI j6 ∧ j6 < 2950 ∧ (∀ M9 : Mm, M9 = sI M (a + 1) j6 x1 → (∃ j10 : Nat, (v5 + 1) = nI j10 ∧ j10 < 2950 ∧ (∀ M13 : Mm, M13 = sI M9 (a + 1) j10 (x2 / 100) → (∃ j14 : Nat, (v5 + 2) = nI j14 ∧ j14 < 2950 ∧ (∀ M17 : Mm, M17 = sI M13 (a + 1) j14 (x2 - x2 / 100 * 100) → (∃ j18 : Nat, (v5 + 3) = nI j18 ∧ j18 < 2950 ∧ (∀ M21 : Mm, M21 = sI M17 (a + 1) j18 x3 → (∃ j22 : Nat, (v5 + 4) = nI j22 ∧ j22 < 2950 ∧ (∀ M25 : Mm, M25 = sI M21 (a + 1) j22 22222 → (∀ M26 : Mm, M26 = sI M25 (a + 1) 0 ((mI M25 (a + 1) 0) + 1) → Q M26 ((mI M26 (a + 1) 0) - 1)))))))))))))) ∧ ((mI M (a + 1) 0) = 6 → Q M (-1000000003)))) ∧ (¬ (0 ≤ x3 ∧ x3 ≤ 9999) → Q M (-1000000001)))))))) : Wn G m_X11_bin (d + 1) 0 [(0, .ref a), (1, .int x1), (2, .int x2), (3, .int x3)] [] X M Q := by
  refine wp_iload_n 1 dX11_bin_0 rfl rfl ?_
  refine wp_i2l dX11_bin_1 ?_
  refine wp_lconst (v := 0) dX11_bin_2 rfl ?_
  refine wp_ldc2 dX11_bin_3 kc_RX11_96 ?_
  refine wp_csip dX11_bin_6 ck_RX11_78 rfl (as := [.long x1.toInt64, .long 0, .long 5]) rfl rfl (Nat.le_of_ble_eq_true rfl) (cp_X11_isIn G d X M x1 0 5 (by decide) (by decide)) ?_
  refine wp_ifB_eq (inferInstance) (tgt := 36) dX11_bin_9 (by decide) (fun c1 => ?_) (fun c1 => ?_)
  · replace h := h.1 c1
    refine wp_ldc dX11_bin_36 kc_RX11_100 ?_
    exact wn_iret dX11_bin_38 rfl h
  · replace h := h.2 c1
    refine wp_iload_n 2 dX11_bin_12 rfl rfl ?_
    refine wp_i2l dX11_bin_13 ?_
    refine wp_lconst (v := 0) dX11_bin_14 rfl ?_
    refine wp_ldc2 dX11_bin_15 kc_RX11_98 ?_
    refine wp_csip dX11_bin_18 ck_RX11_78 rfl (as := [.long x2.toInt64, .long 0, .long 9999]) rfl rfl (Nat.le_of_ble_eq_true rfl) (cp_X11_isIn G d X M x2 0 9999 (by decide) (by decide)) ?_
    refine wp_ifB_eq (inferInstance) (tgt := 36) dX11_bin_21 (by decide) (fun c2 => ?_) (fun c2 => ?_)
    · replace h := h.1 c2
      refine wp_ldc dX11_bin_36 kc_RX11_100 ?_
      exact wn_iret dX11_bin_38 rfl h
    · replace h := h.2 c2
      refine wp_iload_n 3 dX11_bin_24 rfl rfl ?_
      refine wp_i2l dX11_bin_25 ?_
      refine wp_lconst (v := 0) dX11_bin_26 rfl ?_
      refine wp_ldc2 dX11_bin_27 kc_RX11_98 ?_
      refine wp_csip dX11_bin_30 ck_RX11_78 rfl (as := [.long x3.toInt64, .long 0, .long 9999]) rfl rfl (Nat.le_of_ble_eq_true rfl) (cp_X11_isIn G d X M x3 0 9999 (by decide) (by decide)) ?_
      refine wp_ifB_ne (inferInstance) (tgt := 39) dX11_bin_33 (by decide) (fun c3 => ?_) (fun c3 => ?_)
      · replace h := h.1 c3
        refine wp_aload_n 0 dX11_bin_39 rfl rfl ?_
        refine wp_getR dX11_bin_40 fl_RX11_7 rfl (sh10_K hS) (sh10_F_s hS) ?_
        refine wp_iconst (v := 0) dX11_bin_43 rfl ?_
        refine wp_iald (n := 2950) dX11_bin_44 (sh10_K_s hS) (sh10_N_s hS) (by decide) rfl (by decide) ?_
        refine wp_bipush (v := 6) dX11_bin_45 rfl ?_
        refine wp_icmp_ne (tgt := 53) dX11_bin_47 (by decide) (fun c4 => ?_) (fun c4 => ?_)
        · replace h := h.1 c4
          refine wp_aload_n 0 dX11_bin_53 rfl rfl ?_
          refine wp_aload_n 0 dX11_bin_54 rfl rfl ?_
          refine wp_getR dX11_bin_55 fl_RX11_7 rfl (sh10_K hS) (sh10_F_s hS) ?_
          refine wp_iconst (v := 0) dX11_bin_58 rfl ?_
          refine wp_iald (n := 2950) dX11_bin_59 (sh10_K_s hS) (sh10_N_s hS) (by decide) rfl (by decide) ?_
          refine wp_cvip dX11_bin_60 ck_RX11_86 (sh10_K hS) (as := [.int ((mI M (a + 1) 0))]) rfl rfl (Nat.le_of_ble_eq_true rfl) (cp_X11_binAt G d X M a (mI M (a + 1) 0) hS) ?_
          refine wp_topi (fun v5 ev5 => ?_)
          replace h := h v5 ev5
          refine wp_istore (lo2 := [(4, .int _), (0, .ref _), (1, .int _), (2, .int _), (3, .int _)]) dX11_bin_63 (by decide) rfl ?_
          refine wp_aload_n 1 dX11_bin_65 rfl rfl ?_
          refine wp_getR dX11_bin_66 fl_RX11_7 rfl (sh10_K hS) (sh10_F_s hS) ?_
          refine wp_iload 0 dX11_bin_69 rfl ?_
          refine wp_iload_n 2 dX11_bin_71 rfl rfl ?_
          obtain ⟨j6, o7, o8, h⟩ := h
          refine wp_iast (n := 2950) dX11_bin_72 (sh10_K_s hS) (sh10_N_s hS) (by decide) o7 o8 ?_
          refine wp_nm (fun M9 eM9 => ?_)
          replace h := h M9 eM9
          refine wp_aload_n 1 dX11_bin_73 rfl rfl ?_
          refine wp_getR dX11_bin_74 fl_RX11_7 rfl (sh10_K hS) (sh10_F_s hS) ?_
          refine wp_iload 0 dX11_bin_77 rfl ?_
          refine wp_iconst (v := 1) dX11_bin_79 rfl ?_
          refine wp_iadd dX11_bin_80 ?_
          refine wp_iload_n 3 dX11_bin_81 rfl rfl ?_
          refine wp_bipush (v := 100) dX11_bin_82 rfl ?_
          refine wp_idiv dX11_bin_84 (by decide) ?_
          obtain ⟨j10, o11, o12, h⟩ := h
          refine wp_iast (n := 2950) dX11_bin_85 (sh10_K_s hS) (sh10_N_s hS) (by decide) o11 o12 ?_
          refine wp_nm (fun M13 eM13 => ?_)
          replace h := h M13 eM13
          refine wp_aload_n 1 dX11_bin_86 rfl rfl ?_
          refine wp_getR dX11_bin_87 fl_RX11_7 rfl (sh10_K hS) (sh10_F_s hS) ?_
          refine wp_iload 0 dX11_bin_90 rfl ?_
          refine wp_iconst (v := 2) dX11_bin_92 rfl ?_
          refine wp_iadd dX11_bin_93 ?_
          refine wp_iload_n 3 dX11_bin_94 rfl rfl ?_
          refine wp_bipush (v := 100) dX11_bin_95 rfl ?_
          refine wp_irem dX11_bin_97 (by decide) ?_
          obtain ⟨j14, o15, o16, h⟩ := h
          refine wp_iast (n := 2950) dX11_bin_98 (sh10_K_s hS) (sh10_N_s hS) (by decide) o15 o16 ?_
          refine wp_nm (fun M17 eM17 => ?_)
          replace h := h M17 eM17
          refine wp_aload_n 1 dX11_bin_99 rfl rfl ?_
          refine wp_getR dX11_bin_100 fl_RX11_7 rfl (sh10_K hS) (sh10_F_s hS) ?_
          refine wp_iload 0 dX11_bin_103 rfl ?_
          refine wp_iconst (v := 3) dX11_bin_105 rfl ?_
          refine wp_iadd dX11_bin_106 ?_
          refine wp_iload_n 4 dX11_bin_107 rfl rfl ?_
          obtain ⟨j18, o19, o20, h⟩ := h
          refine wp_iast (n := 2950) dX11_bin_108 (sh10_K_s hS) (sh10_N_s hS) (by decide) o19 o20 ?_
          refine wp_nm (fun M21 eM21 => ?_)
          replace h := h M21 eM21
          refine wp_aload_n 1 dX11_bin_109 rfl rfl ?_
          refine wp_getR dX11_bin_110 fl_RX11_7 rfl (sh10_K hS) (sh10_F_s hS) ?_
          refine wp_iload 0 dX11_bin_113 rfl ?_
          refine wp_iconst (v := 4) dX11_bin_115 rfl ?_
          refine wp_iadd dX11_bin_116 ?_
          refine wp_sipush (v := 22222) dX11_bin_117 rfl ?_
          obtain ⟨j22, o23, o24, h⟩ := h
          refine wp_iast (n := 2950) dX11_bin_120 (sh10_K_s hS) (sh10_N_s hS) (by decide) o23 o24 ?_
          refine wp_nm (fun M25 eM25 => ?_)
          replace h := h M25 eM25
          refine wp_aload_n 1 dX11_bin_121 rfl rfl ?_
          refine wp_getR dX11_bin_122 fl_RX11_7 rfl (sh10_K hS) (sh10_F_s hS) ?_
          refine wp_iconst (v := 0) dX11_bin_125 rfl ?_
          refine wp_dup2_11 dX11_bin_126 rfl rfl ?_
          refine wp_iald (n := 2950) dX11_bin_127 (sh10_K_s hS) (sh10_N_s hS) (by decide) rfl (by decide) ?_
          refine wp_iconst (v := 1) dX11_bin_128 rfl ?_
          refine wp_iadd dX11_bin_129 ?_
          refine wp_iast (n := 2950) dX11_bin_130 (sh10_K_s hS) (sh10_N_s hS) (by decide) rfl (by decide) ?_
          refine wp_nm (fun M26 eM26 => ?_)
          replace h := h M26 eM26
          refine wp_aload_n 1 dX11_bin_131 rfl rfl ?_
          refine wp_getR dX11_bin_132 fl_RX11_7 rfl (sh10_K hS) (sh10_F_s hS) ?_
          refine wp_iconst (v := 0) dX11_bin_135 rfl ?_
          refine wp_iald (n := 2950) dX11_bin_136 (sh10_K_s hS) (sh10_N_s hS) (by decide) rfl (by decide) ?_
          refine wp_iconst (v := 1) dX11_bin_137 rfl ?_
          refine wp_isub dX11_bin_138 ?_
          exact wn_iret dX11_bin_139 rfl h
        · replace h := h.2 c4
          refine wp_ldc dX11_bin_50 kc_RX11_101 ?_
          exact wn_iret dX11_bin_52 rfl h
      · replace h := h.2 c3
        refine wp_ldc dX11_bin_36 kc_RX11_100 ?_
        exact wn_iret dX11_bin_38 rfl h
/-- the flat row with one more bin -/
def s_bin (σ : Nat → Int32) (nb : Nat) (k of t : Int32) : Nat → Int32 := upd (upd (upd (upd (upd (upd σ (20 + 5 * nb) k) (21 + 5 * nb) (of / 100)) (22 + 5 * nb) (of - of / 100 * 100)) (23 + 5 * nb) t) (24 + 5 * nb) 22222) 0 (nI (nb + 1))
theorem sbn_o {σ : Nat → Int32} {nb j : Nat} {k of t : Int32} (h : j < 20 + 5 * nb ∨ 24 + 5 * nb < j) (h0 : j ≠ 0) : s_bin σ nb k of t j = σ j := by
  unfold s_bin
  rw [upd_ne h0, upd_ne (by omega), upd_ne (by omega), upd_ne (by omega), upd_ne (by omega), upd_ne (by omega)]
theorem HSx.bin {M M2 : Mm} {h nb nl nx nt nd k o t : Nat} {σ : Nat → Int32} {la : Nat → Nat} (hs : HSx M h σ nb nl nx nt nd la) (hnb : nb < 6) (hk : k ≤ 5) (ho : o ≤ 9999) (ht : t ≤ 9999)
    (e5 : mI M2 (h + 1) 5 = nI (nb + 1)) (e7 : mI M2 (h + 1) 7 = mI M (h + 1) 7) (r1 : mI M2 (h + 1 + 1) = upd (mI M (h + 1 + 1)) nb (nI k)) (r2 : mI M2 (h + 1 + 2) = upd (mI M (h + 1 + 2)) nb (nI o / 100)) (r3 : mI M2 (h + 1 + 3) = upd (mI M (h + 1 + 3)) nb (nI o - nI o / 100 * 100)) (r4 : mI M2 (h + 1 + 4) = upd (mI M (h + 1 + 4)) nb (nI t)) (r5 : mI M2 (h + 1 + 5) = upd (mI M (h + 1 + 5)) nb 22222) (r6 : mI M2 (h + 1 + 6) = mI M (h + 1 + 6))
    (eM : ∀ c, h + 8 ≤ c → c ≤ h + 85 → mI M2 c = mI M c) (eR : mR M2 (h + 9) = mR M (h + 9)) : HSx M2 h (s_bin σ nb (nI k) (nI o) (nI t)) (nb + 1) nl nx nt nd la := by
  obtain ⟨hW0, hB, hF, hT, hD, hR⟩ := hs
  obtain ⟨w0, w1, w2, w3, w4, w5, w6, w7, w8, w9, wb, wf, wl, wt, wd, sl, g, s1, s2, s3, s4, s5⟩ := hW0
  have q0 : s_bin σ nb (nI k) (nI o) (nI t) 0 = nI (nb + 1) := upd_eq
  have q1 : s_bin σ nb (nI k) (nI o) (nI t) (20 + 5 * nb) = nI k := by
    unfold s_bin
    rw [upd_ne (by omega), upd_ne (by omega), upd_ne (by omega), upd_ne (by omega), upd_ne (by omega), upd_eq]
  have q2 : s_bin σ nb (nI k) (nI o) (nI t) (21 + 5 * nb) = nI o / 100 := by
    unfold s_bin
    rw [upd_ne (by omega), upd_ne (by omega), upd_ne (by omega), upd_ne (by omega), upd_eq]
  have q3 : s_bin σ nb (nI k) (nI o) (nI t) (22 + 5 * nb) = nI o - nI o / 100 * 100 := by
    unfold s_bin
    rw [upd_ne (by omega), upd_ne (by omega), upd_ne (by omega), upd_eq]
  have q4 : s_bin σ nb (nI k) (nI o) (nI t) (23 + 5 * nb) = nI t := by
    unfold s_bin
    rw [upd_ne (by omega), upd_ne (by omega), upd_eq]
  have q5 : s_bin σ nb (nI k) (nI o) (nI t) (24 + 5 * nb) = 22222 := by
    unfold s_bin
    rw [upd_ne (by omega), upd_eq]
  have wl2 : ∀ l, l < nl → ∃ b, b < nb ∧ σ (60 + 10 * l) = nI b := wl
  have F2 : FW (s_bin σ nb (nI k) (nI o) (nI t)) nl := fun l hl => by
    obtain ⟨b, hb, hbe⟩ := wl l hl
    obtain ⟨b2, k2, sh, t2, w, g2, ρ, hb2, hk5, hsh, ht2, hw1, hw2, e0, ek, es, et, ew, eg, er, hs⟩ := wf l hl
    have e := (nI_inj (by omega) (by omega)).mp (hbe.symm.trans e0)
    subst e
    exact ⟨b, k2, sh, t2, w, g2, ρ, hb2, hk5, hsh, ht2, hw1, hw2, by rw [sbn_o (by omega) (by omega), e0], by rw [sbn_o (by omega) (by omega), ek], by rw [sbn_o (by omega) (by omega), es], by rw [sbn_o (by omega) (by omega), et], by rw [sbn_o (by omega) (by omega), ew], by rw [sbn_o (by omega) (by omega), eg], fun r hr => by rw [sbn_o (by omega) (by omega), er r hr], hs⟩
  refine ⟨⟨q0, by omega, by rw [sbn_o (by omega) (by omega), w2], w3, by rw [sbn_o (by omega) (by omega), w4], w5, by rw [sbn_o (by omega) (by omega), w6], w7, by rw [sbn_o (by omega) (by omega), w8], w9, fun b hb => ?_, F2, fun l hl => ?_, fun i hi => ?_, fun i hi => by rw [sbn_o (by omega) (by omega)]; exact wd i hi, sl, g, s1, ⟨s2.1, s2.2.cong (by rw [sbn_o (by omega) (by omega)])⟩, s3, by rw [sbn_o (by omega) (by omega), s4], by rw [sbn_o (by omega) (by omega), s5]⟩, ⟨e5, by rw [e7, sbn_o (by omega) (by omega)]; exact hB.2.1, fun i hi => ?_, fun i hi => by rw [r6, sbn_o (by omega) (by omega)]; exact hB.2.2.2 i hi⟩, ?_, ?_, ?_, fun i hi => ?_⟩
  · by_cases e : b = nb
    · subst e
      refine ⟨k, o / 100, 22222, t, hk, by omega, by omega, by omega, ht, q1, ?_, q4, q5⟩
      rw [q2, n_lit 100, nI_div (by omega) (by omega) (by omega)]
    · obtain ⟨k2, sh, v, s, hk, hsh, hv1, hv, hs9, e0, e1, e3, e4⟩ := wb b (by omega)
      exact ⟨k2, sh, v, s, hk, hsh, hv1, hv, hs9, by rw [sbn_o (by omega) (by omega), e0], by rw [sbn_o (by omega) (by omega), e1], by rw [sbn_o (by omega) (by omega), e3], by rw [sbn_o (by omega) (by omega), e4]⟩
  · obtain ⟨b, hb, hbe⟩ := wl l hl
    exact ⟨b, by omega, by rw [sbn_o (by omega) (by omega), hbe]⟩
  · obtain ⟨b, hb, hbe⟩ := wt i hi
    exact ⟨b, by omega, by rw [sbn_o (by omega) (by omega), hbe]⟩
  · rw [r1, r2, r3, r4, r5]
    by_cases e : i = nb
    · subst e
      rw [upd_eq, upd_eq, upd_eq, upd_eq, upd_eq, q1, q2, q3, q4, q5]
      exact ⟨rfl, rfl, rfl, rfl, rfl⟩
    · rw [upd_ne e, upd_ne e, upd_ne e, upd_ne e, upd_ne e, sbn_o (by omega) (by omega), sbn_o (by omega) (by omega), sbn_o (by omega) (by omega), sbn_o (by omega) (by omega), sbn_o (by omega) (by omega)]
      exact hB.2.2.1 i (by omega)
  · have F3 : FR M (h + 8) (s_bin σ nb (nI k) (nI o) (nI t)) nl la := by
      obtain ⟨hP, ⟨d0, d1, d2, d3, d5, d6⟩, hL⟩ := hF
      refine ⟨hP, ⟨by rw [sbn_o (by omega) (by omega), d0], by rw [sbn_o (by omega) (by omega), d1], by rw [sbn_o (by omega) (by omega), d2], by rw [sbn_o (by omega) (by omega), d3], d5, fun r hr => by rw [d6 r hr, bulkIn_cong w3 hr (fun j h1 h2 => sbn_o (by omega) (by omega))]⟩, fun l hl => ?_⟩
      obtain ⟨b, hb, hbe⟩ := wl l hl
      exact LD.move (hL l hl) hbe (by omega) (sbn_o (by omega) (by omega)) (sbn_o (by omega) (by omega)) (fun j hj => sbn_o (by omega) (by omega)) rfl rfl
    exact F3.mem w3 (fun c h1 h2 => eM c (by omega) (by omega)) eR
  · exact (hT.cong (fun j hj => sbn_o (by omega) (by omega))).mem w5 (fun c h1 h2 => eM c (by omega) (by omega))
  · refine ⟨by rw [eM _ (by omega) (by omega)]; exact hD.1, fun i hi => ?_⟩
    rw [eM _ (by omega) (by omega), eM _ (by omega) (by omega), sbn_o (by omega) (by omega), sbn_o (by omega) (by omega)]
    exact hD.2 i hi
  · rw [eM _ (by omega) (by omega), sbn_o (by omega) (by omega)]
    exact hR i hi
