/-! the call feed -/
theorem bX10_feed_0 {G : Gl} {d : Nat} {X : Sh} {M : Mm} {Q : Mm → Int32 → Prop} {a : Nat} {x1 : Int32} {x2 : Int32} {x3 : Int32} (hS : Sh9 X a) (h : ((((mI M (a + 227) 1) + 12) ≤ 96 → (∃ q2 : Mm → Prop, Cv G m_X8_addNumber d [.ref (a + 227), .int x1] X M q2 ∧ ∀ M4, q2 M4 → (∃ q6 : Mm → Prop, Cv G m_X8_addNumber d [.ref (a + 227), .int x2] X M4 q6 ∧ ∀ M8, q6 M8 → (∃ q10 : Mm → Prop, Cv G m_X8_addNumber d [.ref (a + 227), .int x3] X M8 q10 ∧ ∀ M12, q10 M12 → Q M12 (mI M12 (a + 227) 1))))) ∧ (¬ (((mI M (a + 227) 1) + 12) ≤ 96) → Q M (-1000000003)))) : Wn G m_X10_feed (d + 1) 0 [(0, .ref a), (1, .int x1), (2, .int x2), (3, .int x3)] [] X M Q := by
  refine wp_aload_n 0 dX10_feed_0 rfl rfl ?_
  refine wp_getR dX10_feed_1 fl_RX10_33 rfl (sh9_K hS) (sh9_F_tape hS) ?_
  refine wp_getI dX10_feed_4 fl_RX10_200 rfl (sh7_K (sh9_S_tape hS)) ?_
  refine wp_bipush (v := 12) dX10_feed_7 rfl ?_
  refine wp_iadd dX10_feed_9 ?_
  refine wp_bipush (v := 96) dX10_feed_10 rfl ?_
  refine wp_icmp_le (tgt := 18) dX10_feed_12 (by decide) (fun c1 => ?_) (fun c1 => ?_)
  · replace h := h.1 c1
    refine wp_aload_n 0 dX10_feed_18 rfl rfl ?_
    refine wp_getR dX10_feed_19 fl_RX10_33 rfl (sh9_K hS) (sh9_F_tape hS) ?_
    refine wp_iload_n 1 dX10_feed_22 rfl rfl ?_
    obtain ⟨q2, o3, h⟩ := h
    refine wp_cvv dX10_feed_23 ck_RX10_203 (sh7_K (sh9_S_tape hS)) (as := [.int x1]) rfl rfl (Nat.le_of_ble_eq_true rfl) o3 (fun M4 o5 => ?_)
    replace h := h M4 o5
    refine wp_aload_n 0 dX10_feed_26 rfl rfl ?_
    refine wp_getR dX10_feed_27 fl_RX10_33 rfl (sh9_K hS) (sh9_F_tape hS) ?_
    refine wp_iload_n 2 dX10_feed_30 rfl rfl ?_
    obtain ⟨q6, o7, h⟩ := h
    refine wp_cvv dX10_feed_31 ck_RX10_203 (sh7_K (sh9_S_tape hS)) (as := [.int x2]) rfl rfl (Nat.le_of_ble_eq_true rfl) o7 (fun M8 o9 => ?_)
    replace h := h M8 o9
    refine wp_aload_n 0 dX10_feed_34 rfl rfl ?_
    refine wp_getR dX10_feed_35 fl_RX10_33 rfl (sh9_K hS) (sh9_F_tape hS) ?_
    refine wp_iload_n 3 dX10_feed_38 rfl rfl ?_
    obtain ⟨q10, o11, h⟩ := h
    refine wp_cvv dX10_feed_39 ck_RX10_203 (sh7_K (sh9_S_tape hS)) (as := [.int x3]) rfl rfl (Nat.le_of_ble_eq_true rfl) o11 (fun M12 o13 => ?_)
    replace h := h M12 o13
    refine wp_aload_n 0 dX10_feed_42 rfl rfl ?_
    refine wp_getR dX10_feed_43 fl_RX10_33 rfl (sh9_K hS) (sh9_F_tape hS) ?_
    refine wp_getI dX10_feed_46 fl_RX10_200 rfl (sh7_K (sh9_S_tape hS)) ?_
    exact wn_iret dX10_feed_49 rfl h
  · replace h := h.2 c1
    refine wp_ldc dX10_feed_15 kc_RX10_111 ?_
    exact wn_iret dX10_feed_17 rfl h
def xv (x1 x2 x3 : Int32) (j : Nat) : Int32 := if j < 4 then x1 else if j < 8 then x2 else x3
def FeedQ (M : Mm) (m n : Nat) (x1 x2 x3 : Int32) (M2 : Mm) : Prop := mI M2 m 19 = nI (n + 12) ∧ (∀ k, k ≠ 19 → mI M2 m k = mI M m k) ∧ (∀ j, j < 12 → isB (xv x1 x2 x3 j) (j % 4) (mI M2 (m + 17) (n + j))) ∧ (∀ i, i < n → mI M2 (m + 17) i = mI M (m + 17) i) ∧ (∀ c, c ≠ m → c ≠ m + 17 → mI M2 c = mI M c) ∧ mR M2 = mR M
theorem feed_byte (x1 x2 x3 : Int32) (j : Nat) (hj : j < 12) : isB (xv x1 x2 x3 j) (j % 4) (((if 4 ≤ nI j then (if 8 ≤ nI j then x3 else x2) else x1) >>> ((24 - (8 * (nI j - nI j / 4 * 4))) &&& 31)) &&& 255) := by
  unfold isB
  match j, hj with
    | 0, _ => exact byte_nat2 x1 _ 24 (by omega) (by decide)
    | 1, _ => exact byte_nat2 x1 _ 16 (by omega) (by decide)
    | 2, _ => exact byte_nat2 x1 _ 8 (by omega) (by decide)
    | 3, _ => exact byte_nat2 x1 _ 0 (by omega) (by decide)
    | 4, _ => exact byte_nat2 x2 _ 24 (by omega) (by decide)
    | 5, _ => exact byte_nat2 x2 _ 16 (by omega) (by decide)
    | 6, _ => exact byte_nat2 x2 _ 8 (by omega) (by decide)
    | 7, _ => exact byte_nat2 x2 _ 0 (by omega) (by decide)
    | 8, _ => exact byte_nat2 x3 _ 24 (by omega) (by decide)
    | 9, _ => exact byte_nat2 x3 _ 16 (by omega) (by decide)
    | 10, _ => exact byte_nat2 x3 _ 8 (by omega) (by decide)
    | 11, _ => exact byte_nat2 x3 _ 0 (by omega) (by decide)
theorem cl_feed (G : Gl) (d : Nat) {X : Sh} {m n : Nat} {x1 x2 x3 : Int32} {Q : Mm → Int32 → Prop} (hM : Sh10 X m) (hn : n + 12 ≤ 96) (M0 : Mm) (hq : ∀ M2, FeedQ M0 m n x1 x2 x3 M2 → Q M2 (nI (n + 12))) : ∀ (k j : Nat) (M : Mm), j + k = 12 → mI M m 19 = nI (n + j) → (∀ k, k ≠ 19 → mI M m k = mI M0 m k) → (∀ i, i < j → isB (xv x1 x2 x3 i) (i % 4) (mI M (m + 17) (n + i))) → (∀ i, i < n → mI M (m + 17) i = mI M0 (m + 17) i) → (∀ c, c ≠ m → c ≠ m + 17 → mI M c = mI M0 c) → mR M = mR M0 →
    Wn G m_X11_feed d 18 [(0, .ref m), (1, .int x1), (2, .int x2), (3, .int x3), (4, .int (nI j))] [] X M Q
  | 0, j, M, h, h1, h2, h3, h4, h5, h6 => by
    have hj : j = 12 := h
    subst hj
    refine bX11_feed_18 hM ⟨fun _ => ?_, fun q => absurd (by decide) q⟩
    rw [h1]
    exact hq M ⟨h1, h2, h3, h4, h5, h6⟩
  | k + 1, j, M, h, h1, h2, h3, h4, h5, h6 => by
    refine bX11_feed_18 hM ⟨fun q => ?_, fun _ => ?_⟩
    · have := (nI_leI (a := 12) (by omega) (by omega)).mp q
      omega
    · intro v5 e5
      refine ⟨n + j, h1, by omega, ?_⟩
      intro M9 e9 M10 e10
      have hb := feed_byte x1 x2 x3 j (by omega)
      rw [← e5] at hb
      have r10 : mI M10 (m + 17) = upd (mI M (m + 17)) (n + j) ((v5 >>> ((24 - (8 * (nI j - nI j / 4 * 4))) &&& 31)) &&& 255) := by rw [e10, mI_sI, up2_off _ _ _ (by omega), e9, mI_sI, up2_row]
      rw [nI_1]
      refine cl_feed G d hM hn M0 hq k (j + 1) M10 (by omega) ?_ (fun k hk => ?_) (fun i hi => ?_) (fun i hi => ?_) (fun c h7 h8 => ?_) ?_
      · rw [e10, mI_sI, up2_same, e9, mI_sI, up2_off _ _ _ (by omega), h1, nI_1]
        rfl
      · rw [e10, mI_sI, up2_k _ _ _ hk, e9, mI_sI, up2_off _ _ _ (by omega)]
        exact h2 k hk
      · rw [r10]
        by_cases e : i = j
        · subst e
          rw [upd_eq]
          exact hb
        · rw [upd_ne (by omega)]
          exact h3 i (by omega)
      · rw [r10, upd_ne (by omega)]
        exact h4 i hi
      · rw [e10, mI_sI, up2_off _ _ _ h7, e9, mI_sI, up2_off _ _ _ h8]
        exact h5 c h7 h8
      · rw [e10, e9]
        exact h6
theorem case_feed (G : Gl) (d : Nat) (hd : 16 ≤ d) (X : Sh) (b m : Nat) (hS : Sh9 X b) (hM : Sh10 X m) (hbm : b + 266 ≤ m) (x1 x2 x3 : Int32) : Case G d X b m m_X10_feed m_X11_feed [.int x1, .int x2, .int x3] := by
  obtain ⟨d, rfl⟩ : ∃ d1, d = d1 + 1 := ⟨d - 1, by omega⟩
  intro M hs
  obtain ⟨⟨nb, nl, nx, nt, nd, la, hh⟩, hr⟩ := id hs
  obtain ⟨⟨i1, i2⟩, ⟨⟨la1, p1⟩, ⟨la2, p2⟩⟩, ⟨n, n1, n2, n3, n4⟩, s, l, ⟨w, w1, w2, w3, w4⟩⟩ := id hr
  have ad : nI n + 12 ≤ 96 ↔ n + 12 ≤ 96 := by
    rw [n_lit 12, nI_add]
    exact nI_leI (b := 96) (by omega) (by omega)
  by_cases h : n + 12 ≤ 96
  · have hS7 := sh9_S_tape hS
    refine Cn.of (by decide) (Nat.le_of_ble_eq_true rfl) (bX10_feed_0 hS ⟨fun _ => ⟨_, cp_X8_addNumber G d X M (b + 227) n x1 hS7 (by omega) n2, ?_⟩, fun q => absurd (by rw [n2]; exact ad.mpr h) q⟩)
    rintro M4 ⟨a1, a2, a3, a4, a5, a6⟩
    refine ⟨_, cp_X8_addNumber G d X M4 (b + 227) (n + 4) x2 hS7 (by omega) a1, ?_⟩
    rintro M8 ⟨b1, b2, b3, b4, b5, b6⟩
    refine ⟨_, cp_X8_addNumber G d X M8 (b + 227) (n + 4 + 4) x3 hS7 (by omega) b1, ?_⟩
    rintro M12 ⟨c1, c2, c3, c4, c5, c6⟩
    have o12 : ∀ c, c ≠ b + 227 → c ≠ b + 228 → mI M12 c = mI M c := fun c h1 h2 => by rw [c5 c h1 h2, b5 c h1 h2, a5 c h1 h2]
    have n12 : mI M12 m 19 = nI n := by rw [o12 _ (by omega) (by omega), n3]
    rw [c1]
    refine Cn.of (by decide) (Nat.le_of_ble_eq_true rfl) (bX11_feed_0 hM ⟨fun _ => ?_, fun q => absurd (by rw [n12]; exact ad.mpr h) q⟩)
    refine cl_feed G _ hM h M12 (fun Mf hf => ⟨rfl, ?_⟩) 12 0 M12 rfl n12 (fun _ _ => rfl) (fun i hi => absurd hi (by omega)) (fun _ _ => rfl) (fun _ _ _ => rfl) rfl
    obtain ⟨f1, f2, f3, f4, f5, f6⟩ := hf
    have oth : ∀ c, c ≠ m → c ≠ m + 17 → c ≠ b + 227 → c ≠ b + 228 → mI Mf c = mI M c := fun c h1 h2 h3 h4 => by rw [f5 c h1 h2, o12 c h3 h4]
    have kf : ∀ k, k ≠ 19 → mI Mf m k = mI M m k := fun k hk => by rw [f2 k hk, o12 _ (by omega) (by omega)]
    have R : mR Mf = mR M := f6.trans (c6.trans (b6.trans a6))
    refine ⟨?_, ⟨by rw [oth b (by omega) (by omega) (by omega) (by omega), kf _ (by omega)]; exact i1, fun q => ?_⟩, ⟨⟨la1, p1.mR R⟩, ⟨la2, p2.mR R⟩⟩, ⟨n + 12, h, ?_, f1, fun i hi => ?_⟩, fun i hi => ?_, fun i hi => ?_, ⟨w, w1, by rw [oth _ (by omega) (by omega) (by omega) (by omega), w2], by rw [kf _ (by omega), w3], fun i hi => by rw [oth _ (by omega) (by omega) (by omega) (by omega), oth _ (by omega) (by omega) (by omega) (by omega)]; exact w4 i hi⟩⟩
    · rw [oth (m + 1) (by omega) (by omega) (by omega) (by omega)]
      exact hs.1.mem (fun c h1 h2 _ => oth c (by omega) (by omega) (by omega) (by omega)) (by rw [R])
    · rw [kf _ (by omega)] at q
      rw [oth (m + 2) (by omega) (by omega) (by omega) (by omega)]
      exact (i2 q).mem (fun c h1 h2 h3 => oth c (by omega) (by omega) (by omega) (by omega)) (by rw [R])
    · rw [f5 _ (by omega) (by omega), c1]
    · rw [f5 (b + 228) (by omega) (by omega)]
      by_cases q : i < n
      · have e1 : mI M12 (b + 228) i = mI M (b + 228) i := by
          have t1 := c4 i (by omega)
          have t2 := b4 i (by omega)
          have t3 := a4 i q
          exact t1.trans (t2.trans t3)
        rw [e1, f4 i q, o12 _ (by omega) (by omega)]
        exact n4 i q
      · obtain ⟨j, rfl⟩ : ∃ j, i = n + j := ⟨i - n, by omega⟩
        have hr2 := f3 j (by omega)
        have hc2 : isB (xv x1 x2 x3 j) (j % 4) (mI M12 (b + 228) (n + j)) := by
          by_cases j1 : j < 4
          · have t := a3 j j1
            have e : mI M12 (b + 228) (n + j) = mI M4 (b + 227 + 1) (n + j) := (c4 (n + j) (by omega)).trans (b4 (n + j) (by omega))
            rw [e, show j % 4 = j by omega]
            unfold xv
            rw [if_pos j1]
            exact t
          · by_cases j2 : j < 8
            · have t := b3 (j - 4) (by omega)
              have e : mI M12 (b + 228) (n + j) = mI M8 (b + 227 + 1) (n + 4 + (j - 4)) := (c4 (n + j) (by omega)).trans (congrArg _ (by omega))
              rw [e, show j % 4 = j - 4 by omega]
              unfold xv
              rw [if_neg j1, if_pos j2]
              exact t
            · have t := c3 (j - 8) (by omega)
              have e : mI M12 (b + 228) (n + j) = mI M12 (b + 227 + 1) (n + 4 + 4 + (j - 8)) := congrArg _ (by omega)
              rw [e, show j % 4 = j - 8 by omega]
              unfold xv
              rw [if_neg j1, if_neg j2]
              exact t
        exact ⟨i32_nat (hc2.trans hr2.symm), byte_le hr2⟩
    · rw [oth (b + 232 + 3 * i) (by omega) (by omega) (by omega) (by omega), oth (b + 233 + 3 * i) (by omega) (by omega) (by omega) (by omega), oth (b + 234 + 3 * i) (by omega) (by omega) (by omega) (by omega), oth (m + 4) (by omega) (by omega) (by omega) (by omega), oth (m + 5) (by omega) (by omega) (by omega) (by omega), oth (m + 6) (by omega) (by omega) (by omega) (by omega)]
      exact s i hi
    · rw [oth (b + 245 + 4 * i) (by omega) (by omega) (by omega) (by omega), oth (b + 246 + 4 * i) (by omega) (by omega) (by omega) (by omega), oth (b + 247 + 4 * i) (by omega) (by omega) (by omega) (by omega), oth (b + 248 + 4 * i) (by omega) (by omega) (by omega) (by omega), oth (m + 7) (by omega) (by omega) (by omega) (by omega), oth (m + 8) (by omega) (by omega) (by omega) (by omega), oth (m + 9) (by omega) (by omega) (by omega) (by omega), oth (m + 10) (by omega) (by omega) (by omega) (by omega), oth (m + 11) (by omega) (by omega) (by omega) (by omega)]
      exact l i hi
  · exact Cn.of (by decide) (Nat.le_of_ble_eq_true rfl) (bX10_feed_0 hS ⟨fun q => absurd (by rw [n2] at q; exact ad.mp q) h, fun _ => Cn.of (by decide) (Nat.le_of_ble_eq_true rfl) (bX11_feed_0 hM ⟨fun q => absurd (by rw [n3] at q; exact ad.mp q) h, fun _ => ⟨rfl, hs⟩⟩)⟩)
