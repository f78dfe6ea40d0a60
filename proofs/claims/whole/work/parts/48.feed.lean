/-! feed: the two sides' bytes -/
theorem bX8_addNumber_0 {G : Gl} {d : Nat} {X : Sh} {M : Mm} {Q : Mm → Prop} {a : Nat} {x1 : Int32} (hS : Sh7 X a) (h : Wv G m_X8_addNumber d 3 [(0, .ref a), (1, .int x1), (2, .int 24)] [] X M Q) : Wv G m_X8_addNumber d 0 [(0, .ref a), (1, .int x1)] [] X M Q := by
  refine wp_bipush (v := 24) dX8_addNumber_0 rfl ?_
  refine wp_istore_n (lo2 := [(2, .int _), (0, .ref _), (1, .int _)]) dX8_addNumber_2 rfl (by decide) rfl ?_
  exact Wp.sub [1, 2, 0] rfl h
theorem bX8_addNumber_3 {G : Gl} {d : Nat} {X : Sh} {M : Mm} {Q : Mm → Prop} {a : Nat} {x1 : Int32} {x2 : Int32} (hS : Sh7 X a) (h : ((x2 < 0 → Q M) ∧ (¬ (x2 < 0) → ((96 ≤ (mI M a 1) → Q M) ∧ (¬ (96 ≤ (mI M a 1)) → (∃ j3 : Nat, (mI M a 1) = nI j3 ∧ j3 < 96 ∧ (∀ M6 : Mm, M6 = sI M (a + 1) j3 ((x1.toUInt32 >>> (x2.toUInt32 &&& Int32.toUInt32 31)).toInt32 &&& 255) → (∀ M7 : Mm, M7 = sI M6 a 1 ((mI M6 a 1) + 1) → Wv G m_X8_addNumber d 3 [(0, .ref a), (1, .int x1), (2, .int (x2 + (-8)))] [] X M7 Q)))))))) : Wv G m_X8_addNumber d 3 [(0, .ref a), (1, .int x1), (2, .int x2)] [] X M Q := by
  refine wp_iload_n 2 dX8_addNumber_3 rfl rfl ?_
  refine wp_if_lt (tgt := 48) dX8_addNumber_4 (by decide) (fun c1 => ?_) (fun c1 => ?_)
  · replace h := h.1 c1
    exact wv_ret dX8_addNumber_48 rfl h
  · replace h := h.2 c1
    refine wp_aload_n 0 dX8_addNumber_7 rfl rfl ?_
    refine wp_getI dX8_addNumber_8 fl_RX8_15 rfl (sh7_K hS) ?_
    refine wp_bipush (v := 96) dX8_addNumber_11 rfl ?_
    refine wp_icmp_ge (tgt := 48) dX8_addNumber_13 (by decide) (fun c2 => ?_) (fun c2 => ?_)
    · replace h := h.1 c2
      exact wv_ret dX8_addNumber_48 rfl h
    · replace h := h.2 c2
      refine wp_aload_n 0 dX8_addNumber_16 rfl rfl ?_
      refine wp_getR dX8_addNumber_17 fl_RX8_9 rfl (sh7_K hS) (sh7_F_bytes hS) ?_
      refine wp_aload_n 0 dX8_addNumber_20 rfl rfl ?_
      refine wp_getI dX8_addNumber_21 fl_RX8_15 rfl (sh7_K hS) ?_
      refine wp_iload_n 1 dX8_addNumber_24 rfl rfl ?_
      refine wp_iload_n 2 dX8_addNumber_25 rfl rfl ?_
      refine wp_iushr dX8_addNumber_26 ?_
      refine wp_sipush (v := 255) dX8_addNumber_27 rfl ?_
      refine wp_iand dX8_addNumber_30 ?_
      obtain ⟨j3, o4, o5, h⟩ := h
      refine wp_iast (n := 96) dX8_addNumber_31 (sh7_K_bytes hS) (sh7_N_bytes hS) (by decide) o4 o5 ?_
      refine wp_nm (fun M6 eM6 => ?_)
      replace h := h M6 eM6
      refine wp_aload_n 0 dX8_addNumber_32 rfl rfl ?_
      refine wp_dup dX8_addNumber_33 rfl ?_
      refine wp_getI dX8_addNumber_34 fl_RX8_15 rfl (sh7_K hS) ?_
      refine wp_iconst (v := 1) dX8_addNumber_37 rfl ?_
      refine wp_iadd dX8_addNumber_38 ?_
      refine wp_putI dX8_addNumber_39 fp_RX8_15 rfl (sh7_K hS) ?_
      refine wp_nm (fun M7 eM7 => ?_)
      replace h := h M7 eM7
      refine wp_iinc (v := x2 + (-8)) (lo2 := [(2, .int _), (0, .ref _), (1, .int _)]) dX8_addNumber_42 (q := 2) rfl rfl (by decide) rfl ?_
      refine wp_goto (tgt := 3) dX8_addNumber_45 (by decide) ?_
      exact Wp.sub [1, 2, 0] rfl h
theorem bX11_feed_0 {G : Gl} {d : Nat} {X : Sh} {M : Mm} {Q : Mm → Int32 → Prop} {a : Nat} {x1 : Int32} {x2 : Int32} {x3 : Int32} (hS : Sh10 X a) (h : ((((mI M a 19) + 12) ≤ 96 → Wn G m_X11_feed d 18 [(0, .ref a), (1, .int x1), (2, .int x2), (3, .int x3), (4, .int 0)] [] X M Q) ∧ (¬ (((mI M a 19) + 12) ≤ 96) → Q M (-1000000003)))) : Wn G m_X11_feed d 0 [(0, .ref a), (1, .int x1), (2, .int x2), (3, .int x3)] [] X M Q := by
  refine wp_aload_n 0 dX11_feed_0 rfl rfl ?_
  refine wp_getI dX11_feed_1 fl_RX11_219 rfl (sh10_K hS) ?_
  refine wp_bipush (v := 12) dX11_feed_4 rfl ?_
  refine wp_iadd dX11_feed_6 ?_
  refine wp_bipush (v := 96) dX11_feed_7 rfl ?_
  refine wp_icmp_le (tgt := 15) dX11_feed_9 (by decide) (fun c1 => ?_) (fun c1 => ?_)
  · replace h := h.1 c1
    refine wp_iconst (v := 0) dX11_feed_15 rfl ?_
    refine wp_istore (lo2 := [(4, .int _), (0, .ref _), (1, .int _), (2, .int _), (3, .int _)]) dX11_feed_16 (by decide) rfl ?_
    exact Wp.sub [1, 2, 3, 4, 0] rfl h
  · replace h := h.2 c1
    refine wp_ldc dX11_feed_12 kc_RX11_101 ?_
    exact wn_iret dX11_feed_14 rfl h
theorem bX11_feed_18 {G : Gl} {d : Nat} {X : Sh} {M : Mm} {Q : Mm → Int32 → Prop} {a : Nat} {x1 : Int32} {x2 : Int32} {x3 : Int32} {x4 : Int32} (hS : Sh10 X a) (h : ((12 ≤ x4 → Q M (mI M a 19)) ∧ (¬ (12 ≤ x4) → (∀ v5 : Int32, v5 = (if 4 ≤ x4 then (if 8 ≤ x4 then x3 else x2) else x1) → (∃ j6 : Nat, (mI M a 19) = nI j6 ∧ j6 < 96 ∧ (∀ M9 : Mm, M9 = sI M (a + 17) j6 ((v5 >>> ((24 - (8 * (x4 - x4 / 4 * 4))) &&& 31)) &&& 255) → (∀ M10 : Mm, M10 = sI M9 a 19 ((mI M9 a 19) + 1) → Wn G m_X11_feed d 18 [(0, .ref a), (1, .int x1), (2, .int x2), (3, .int x3), (4, .int (x4 + 1))] [] X M10 Q))))))) : Wn G m_X11_feed d 18 [(0, .ref a), (1, .int x1), (2, .int x2), (3, .int x3), (4, .int x4)] [] X M Q := by
  refine wp_iload 4 dX11_feed_18 rfl ?_
  refine wp_bipush (v := 12) dX11_feed_20 rfl ?_
  refine wp_icmp_ge (tgt := 91) dX11_feed_22 (by decide) (fun c1 => ?_) (fun c1 => ?_)
  · replace h := h.1 c1
    refine wp_aload_n 0 dX11_feed_91 rfl rfl ?_
    refine wp_getI dX11_feed_92 fl_RX11_219 rfl (sh10_K hS) ?_
    exact wn_iret dX11_feed_95 rfl h
  · replace h := h.2 c1
    refine wp_iload 4 dX11_feed_25 rfl ?_
    refine wp_iconst (v := 4) dX11_feed_27 rfl ?_
    have K4 : Wp G m_X11_feed d 0 0 0 0 47 [(0, .ref a), (1, .int x1), (2, .int x2), (3, .int x3), (4, .int x4)] [.int ((if 4 ≤ x4 then (if 8 ≤ x4 then x3 else x2) else x1))] X M (fun X2 M2 v => X2 = X ∧ ∃ x, v = some (.int x) ∧ Q M2 x) := by
      refine wp_topi (fun v5 ev5 => ?_)
      replace h := h v5 ev5
      refine wp_istore (lo2 := [(5, .int _), (0, .ref _), (1, .int _), (2, .int _), (3, .int _), (4, .int _)]) dX11_feed_47 (by decide) rfl ?_
      refine wp_aload_n 1 dX11_feed_49 rfl rfl ?_
      refine wp_getR dX11_feed_50 fl_RX11_59 rfl (sh10_K hS) (sh10_F_tape hS) ?_
      refine wp_aload_n 1 dX11_feed_53 rfl rfl ?_
      refine wp_getI dX11_feed_54 fl_RX11_219 rfl (sh10_K hS) ?_
      refine wp_iload 0 dX11_feed_57 rfl ?_
      refine wp_bipush (v := 24) dX11_feed_59 rfl ?_
      refine wp_bipush (v := 8) dX11_feed_61 rfl ?_
      refine wp_iload 5 dX11_feed_63 rfl ?_
      refine wp_iconst (v := 4) dX11_feed_65 rfl ?_
      refine wp_irem dX11_feed_66 (by decide) ?_
      refine wp_imul dX11_feed_67 ?_
      refine wp_isub dX11_feed_68 ?_
      refine wp_ishr dX11_feed_69 ?_
      refine wp_sipush (v := 255) dX11_feed_70 rfl ?_
      refine wp_iand dX11_feed_73 ?_
      obtain ⟨j6, o7, o8, h⟩ := h
      refine wp_iast (n := 96) dX11_feed_74 (sh10_K_tape hS) (sh10_N_tape hS) (by decide) o7 o8 ?_
      refine wp_nm (fun M9 eM9 => ?_)
      replace h := h M9 eM9
      refine wp_aload_n 1 dX11_feed_75 rfl rfl ?_
      refine wp_dup dX11_feed_76 rfl ?_
      refine wp_getI dX11_feed_77 fl_RX11_219 rfl (sh10_K hS) ?_
      refine wp_iconst (v := 1) dX11_feed_80 rfl ?_
      refine wp_iadd dX11_feed_81 ?_
      refine wp_putI dX11_feed_82 fp_RX11_219 rfl (sh10_K hS) ?_
      refine wp_nm (fun M10 eM10 => ?_)
      replace h := h M10 eM10
      refine wp_iinc (v := x4 + 1) (lo2 := [(4, .int _), (5, .int _), (0, .ref _), (1, .int _), (2, .int _), (3, .int _)]) dX11_feed_85 (q := 5) rfl rfl (by decide) rfl ?_
      refine wp_goto (tgt := 18) dX11_feed_88 (by decide) ?_
      exact Wp.sub [2, 3, 4, 5, 0] rfl h
    refine wp_icmp_ge (tgt := 35) dX11_feed_28 (by decide) (fun c2 => ?_) (fun c2 => ?_)
    · refine wp_iload 4 dX11_feed_35 rfl ?_
      refine wp_bipush (v := 8) dX11_feed_37 rfl ?_
      refine wp_icmp_ge (tgt := 46) dX11_feed_39 (by decide) (fun c3 => ?_) (fun c3 => ?_)
      · refine wp_iload_n 3 dX11_feed_46 rfl rfl ?_
        rw [if_pos c2] at K4
        rw [if_pos c3] at K4
        exact K4
      · refine wp_iload_n 2 dX11_feed_42 rfl rfl ?_
        refine wp_goto (tgt := 47) dX11_feed_43 (by decide) ?_
        rw [if_pos c2] at K4
        rw [if_neg c3] at K4
        exact K4
    · refine wp_iload_n 1 dX11_feed_31 rfl rfl ?_
      refine wp_goto (tgt := 47) dX11_feed_32 (by decide) ?_
      rw [if_neg c2] at K4
      exact K4
/-- byte j of a number, the highest first -/
def isB (x : Int32) (j : Nat) (v : Int32) : Prop := v.toBitVec.toNat = x.toBitVec.toNat / 2 ^ (24 - 8 * j) % 256
def AddQ (M : Mm) (a n : Nat) (x : Int32) (M2 : Mm) : Prop := mI M2 a 1 = nI (n + 4) ∧ (∀ k, k ≠ 1 → mI M2 a k = mI M a k) ∧ (∀ j, j < 4 → isB x j (mI M2 (a + 1) (n + j))) ∧ (∀ i, i < n → mI M2 (a + 1) i = mI M (a + 1) i) ∧ (∀ c, c ≠ a → c ≠ a + 1 → mI M2 c = mI M c) ∧ mR M2 = mR M
theorem cl_addNumber (G : Gl) (d : Nat) {X : Sh} {a n : Nat} {x : Int32} (hS : Sh7 X a) (hn : n + 4 ≤ 96) (M0 : Mm) : ∀ (k j : Nat) (M : Mm), j + k = 4 → mI M a 1 = nI (n + j) → (∀ k, k ≠ 1 → mI M a k = mI M0 a k) → (∀ i, i < j → isB x i (mI M (a + 1) (n + i))) → (∀ i, i < n → mI M (a + 1) i = mI M0 (a + 1) i) → (∀ c, c ≠ a → c ≠ a + 1 → mI M c = mI M0 c) → mR M = mR M0 →
    ∀ s : Int32, (s = if j = 0 then 24 else if j = 1 then 16 else if j = 2 then 8 else if j = 3 then 0 else -8) → Wv G m_X8_addNumber d 3 [(0, .ref a), (1, .int x), (2, .int s)] [] X M (AddQ M0 a n x)
  | 0, j, M, h, h1, h2, h3, h4, h5, h6, s, hs => by
    have hj : j = 4 := h
    subst hj
    have hs : s = -8 := hs
    subst hs
    exact bX8_addNumber_3 hS ⟨fun _ => ⟨h1, h2, h3, h4, h5, h6⟩, fun q => absurd (by decide) q⟩
  | k + 1, j, M, h, h1, h2, h3, h4, h5, h6, s, hs => by
    have hj : j < 4 := by omega
    have hs0 : ¬ s < 0 := by
      rw [hs]
      match j, hj with
      | 0, _ => decide
      | 1, _ => decide
      | 2, _ => decide
      | 3, _ => decide
    have hb : isB x j ((x.toUInt32 >>> (s.toUInt32 &&& Int32.toUInt32 31)).toInt32 &&& 255) := by
      unfold isB
      rw [hs]
      match j, hj with
      | 0, _ => exact byte_nat x _ 24 (by decide)
      | 1, _ => exact byte_nat x _ 16 (by decide)
      | 2, _ => exact byte_nat x _ 8 (by decide)
      | 3, _ => exact byte_nat x _ 0 (by decide)
    have hs2 : s + (-8) = if j + 1 = 0 then 24 else if j + 1 = 1 then 16 else if j + 1 = 2 then 8 else if j + 1 = 3 then 0 else -8 := by
      rw [hs]
      match j, hj with
      | 0, _ => rfl
      | 1, _ => rfl
      | 2, _ => rfl
      | 3, _ => rfl
    refine bX8_addNumber_3 hS ⟨fun q => absurd q hs0, fun _ => ⟨fun q => ?_, fun _ => ⟨n + j, h1, by omega, ?_⟩⟩⟩
    · rw [h1] at q
      have := (nI_leI (a := 96) (by omega) (by omega)).mp q
      omega
    · intro M6 e6 M7 e7
      have r7 : mI M7 (a + 1) = upd (mI M (a + 1)) (n + j) ((x.toUInt32 >>> (s.toUInt32 &&& Int32.toUInt32 31)).toInt32 &&& 255) := by rw [e7, mI_sI, up2_off _ _ _ (by omega), e6, mI_sI, up2_row]
      refine cl_addNumber G d hS hn M0 k (j + 1) M7 (by omega) ?_ (fun k hk => ?_) (fun i hi => ?_) (fun i hi => ?_) (fun c h7 h8 => ?_) ?_ _ hs2
      · rw [e7, mI_sI, up2_same, e6, mI_sI, up2_off _ _ _ (by omega), h1, nI_1]
        rfl
      · rw [e7, mI_sI, up2_k _ _ _ hk, e6, mI_sI, up2_off _ _ _ (by omega)]
        exact h2 k hk
      · rw [r7]
        by_cases e : i = j
        · subst e
          rw [upd_eq]
          exact hb
        · rw [upd_ne (by omega)]
          exact h3 i (by omega)
      · rw [r7, upd_ne (by omega)]
        exact h4 i hi
      · rw [e7, mI_sI, up2_off _ _ _ h7, e6, mI_sI, up2_off _ _ _ h8]
        exact h5 c h7 h8
      · rw [e7, e6]
        exact h6
theorem cp_X8_addNumber (G : Gl) (d : Nat) (X : Sh) (M : Mm) (a n : Nat) (x : Int32) (hS : Sh7 X a) (hn : n + 4 ≤ 96) (h1 : mI M a 1 = nI n) : Cv G m_X8_addNumber d [.ref a, .int x] X M (AddQ M a n x) := by
  refine Cv.of (by decide) (Nat.le_of_ble_eq_true rfl) (bX8_addNumber_0 hS ?_)
  exact cl_addNumber G d hS hn M 4 0 M rfl h1 (fun _ _ => rfl) (fun i hi => absurd hi (by omega)) (fun _ _ => rfl) (fun _ _ _ => rfl) rfl 24 rfl
