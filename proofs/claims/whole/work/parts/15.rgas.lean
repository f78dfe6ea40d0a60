/-! gas, an hour -/
theorem s_counts_spec (σ : Nat → Int32) (key : Int32) : ∀ n, s_counts σ key n = -1 ∨ ∃ t, t < n ∧ s_counts σ key n = nI t ∧ σ (340 + 200 * t) = key
  | 0 => Or.inl rfl
  | n + 1 => by
    show (if σ (340 + 200 * n) = key then nI n else s_counts σ key n) = -1 ∨ ∃ t, t < n + 1 ∧ (if σ (340 + 200 * n) = key then nI n else s_counts σ key n) = nI t ∧ _
    by_cases h : σ (340 + 200 * n) = key
    · rw [if_pos h]
      exact Or.inr ⟨n, by omega, rfl, h⟩
    · rw [if_neg h]
      rcases s_counts_spec σ key n with h1 | ⟨t, h1, h2, h3⟩
      · exact Or.inl h1
      · exact Or.inr ⟨t, by omega, h2, h3⟩
def e_gas (σ : Nat → Int32) (nl : Nat) (c : Nat) : Int32 := if c = 104 then σ 5 else if c = 116 then s_great (s_top σ nl) 5 else if c = 105 then σ 9 else 0
def s_gas (σ : Nat → Int32) (nl nx : Nat) : Int32 := if s_counts σ 6 nx < 0 then σ 7 else f_heldIn (s_worth σ (s_counts σ 6 nx).toNatClampNeg (e_gas σ nl)) 999
/-- the layers' bins are there, and no layer was empty -/
def LB (σ : Nat → Int32) (nl : Nat) : Prop := ∀ l, l < nl → (∃ b, b < 6 ∧ σ (60 + 10 * l) = nI b) ∧ ¬ σ (63 + 10 * l) = 0
theorem nm_6 {c : Nat} (h : nm_ok 6 c) : c = 104 ∨ c = 116 ∨ c = 105 := by
  obtain ⟨h1, h2⟩ := h
  have h3 : nI c = 104 ∨ nI c = 116 ∨ nI c = 105 := by simpa [p_isName] using h2
  rcases h3 with h3 | h3 | h3
  · exact Or.inl ((nI_eq (b := 104) (by omega) (by omega)).mp h3)
  · exact Or.inr (Or.inl ((nI_eq (b := 116) (by omega) (by omega)).mp h3))
  · exact Or.inr (Or.inr ((nI_eq (b := 105) (by omega) (by omega)).mp h3))
theorem bX11_gasNow_0 {G : Gl} {d : Nat} {X : Sh} {M : Mm} {Q : Mm → Int32 → Prop} {a : Nat} (hS : Sh10 X a) (h : (∃ q1 : Mm → Int32 → Prop, Cn G m_X11_counts d [.ref a, .int 6] X M q1 ∧ ∀ M3 r4, q1 M3 r4 → (∀ M6 : Mm, M6 = sI M3 (a + 18) 104 (mI M3 (a + 1) 5) → (∃ q7 : Mm → Int32 → Prop, Cn G m_X11_greatestTop d [.ref a] X M6 q7 ∧ ∀ M9 r10, q7 M9 r10 → (∀ M12 : Mm, M12 = sI M9 (a + 18) 116 r10 → (∀ M13 : Mm, M13 = sI M12 (a + 18) 105 (mI M12 (a + 1) 9) → ((0 ≤ r4 → (∃ q15 : Mm → Int32 → Prop, Cn G m_X11_worked d [.ref a, .int r4] X M13 q15 ∧ ∀ M17 r18, q15 M17 r18 → Q M17 (f_heldIn r18 999))) ∧ (¬ (0 ≤ r4) → Q M13 (mI M13 (a + 1) 7))))))))) : Wn G m_X11_gasNow (d + 1) 0 [(0, .ref a)] [] X M Q := by
  refine wp_aload_n 0 dX11_gasNow_0 rfl rfl ?_
  refine wp_bipush (v := 6) dX11_gasNow_1 rfl ?_
  obtain ⟨q1, o2, h⟩ := h
  refine wp_cvi dX11_gasNow_3 ck_RX11_165 (sh10_K hS) (as := [.int 6]) rfl rfl (Nat.le_of_ble_eq_true rfl) o2 (fun M3 r4 o5 => ?_)
  replace h := h M3 r4 o5
  refine wp_istore_n (lo2 := [(1, .int _), (0, .ref _)]) dX11_gasNow_6 rfl (by decide) rfl ?_
  refine wp_aload_n 1 dX11_gasNow_7 rfl rfl ?_
  refine wp_getR dX11_gasNow_8 fl_RX11_62 rfl (sh10_K hS) (sh10_F_named hS) ?_
  refine wp_bipush (v := 104) dX11_gasNow_11 rfl ?_
  refine wp_aload_n 1 dX11_gasNow_13 rfl rfl ?_
  refine wp_getR dX11_gasNow_14 fl_RX11_7 rfl (sh10_K hS) (sh10_F_s hS) ?_
  refine wp_iconst (v := 5) dX11_gasNow_17 rfl ?_
  refine wp_iald (n := 2950) dX11_gasNow_18 (sh10_K_s hS) (sh10_N_s hS) (by decide) rfl (by decide) ?_
  refine wp_iast (n := 128) dX11_gasNow_19 (sh10_K_named hS) (sh10_N_named hS) (by decide) rfl (by decide) ?_
  refine wp_nm (fun M6 eM6 => ?_)
  replace h := h M6 eM6
  refine wp_aload_n 1 dX11_gasNow_20 rfl rfl ?_
  refine wp_getR dX11_gasNow_21 fl_RX11_62 rfl (sh10_K hS) (sh10_F_named hS) ?_
  refine wp_bipush (v := 116) dX11_gasNow_24 rfl ?_
  refine wp_aload_n 1 dX11_gasNow_26 rfl rfl ?_
  obtain ⟨q7, o8, h⟩ := h
  refine wp_cvi dX11_gasNow_27 ck_RX11_168 (sh10_K hS) (as := []) rfl rfl (Nat.le_of_ble_eq_true rfl) o8 (fun M9 r10 o11 => ?_)
  replace h := h M9 r10 o11
  refine wp_iast (n := 128) dX11_gasNow_30 (sh10_K_named hS) (sh10_N_named hS) (by decide) rfl (by decide) ?_
  refine wp_nm (fun M12 eM12 => ?_)
  replace h := h M12 eM12
  refine wp_aload_n 1 dX11_gasNow_31 rfl rfl ?_
  refine wp_getR dX11_gasNow_32 fl_RX11_62 rfl (sh10_K hS) (sh10_F_named hS) ?_
  refine wp_bipush (v := 105) dX11_gasNow_35 rfl ?_
  refine wp_aload_n 1 dX11_gasNow_37 rfl rfl ?_
  refine wp_getR dX11_gasNow_38 fl_RX11_7 rfl (sh10_K hS) (sh10_F_s hS) ?_
  refine wp_bipush (v := 9) dX11_gasNow_41 rfl ?_
  refine wp_iald (n := 2950) dX11_gasNow_43 (sh10_K_s hS) (sh10_N_s hS) (by decide) rfl (by decide) ?_
  refine wp_iast (n := 128) dX11_gasNow_44 (sh10_K_named hS) (sh10_N_named hS) (by decide) rfl (by decide) ?_
  refine wp_nm (fun M13 eM13 => ?_)
  replace h := h M13 eM13
  refine wp_iload_n 0 dX11_gasNow_45 rfl rfl ?_
  refine wp_if_ge (tgt := 59) dX11_gasNow_46 (by decide) (fun c14 => ?_) (fun c14 => ?_)
  · replace h := h.1 c14
    refine wp_aload_n 1 dX11_gasNow_59 rfl rfl ?_
    refine wp_iload_n 0 dX11_gasNow_60 rfl rfl ?_
    obtain ⟨q15, o16, h⟩ := h
    refine wp_cvi dX11_gasNow_61 ck_RX11_172 (sh10_K hS) (as := [.int r4]) rfl rfl (Nat.le_of_ble_eq_true rfl) o16 (fun M17 r18 o19 => ?_)
    replace h := h M17 r18 o19
    refine wp_sipush (v := 999) dX11_gasNow_64 rfl ?_
    refine wp_csip dX11_gasNow_67 ck_RX11_175 rfl (as := [.int r18, .int 999]) rfl rfl (Nat.le_of_ble_eq_true rfl) (cp_X11_heldIn G d X M17 r18 999) ?_
    exact wn_iret dX11_gasNow_70 rfl h
  · replace h := h.2 c14
    refine wp_aload_n 1 dX11_gasNow_49 rfl rfl ?_
    refine wp_getR dX11_gasNow_50 fl_RX11_7 rfl (sh10_K hS) (sh10_F_s hS) ?_
    refine wp_bipush (v := 7) dX11_gasNow_53 rfl ?_
    refine wp_iald (n := 2950) dX11_gasNow_55 (sh10_K_s hS) (sh10_N_s hS) (by decide) rfl (by decide) ?_
    refine wp_goto (tgt := 70) dX11_gasNow_56 (by decide) ?_
    exact wn_iret dX11_gasNow_70 rfl h
theorem cp_X11_gasNow (G : Gl) (d : Nat) (hd : 4 ≤ d) (X : Sh) (M : Mm) (a nl nx : Nat) (hS : Sh10 X a) (hn : mI M (a + 1) 1 = nI nl) (hnl : nl ≤ 24) (hx : mI M (a + 1) 2 = nI nx) (hnx : nx ≤ 12) (hT : ∀ t, t < nx → mI M (a + 1) (340 + 200 * t) = 6 → T_ok (mI M (a + 1)) t) :
    Cn G m_X11_gasNow d [.ref a] X M (fun M2 x => x = s_gas (mI M (a + 1)) nl nx ∧ (∀ b, b ≠ a + 18 → b ≠ a + 19 → mI M2 b = mI M b) ∧ mR M2 = mR M) := by
  obtain ⟨d, rfl⟩ : ∃ d1, d = d1 + 1 := ⟨d - 1, by omega⟩
  refine Cn.of (by decide) (Nat.le_of_ble_eq_true rfl) (bX11_gasNow_0 hS ⟨_, cp_X11_counts G d (by omega) X M a nx 6 hS hx hnx, ?_⟩)
  rintro M3 r4 ⟨e3, e4⟩
  subst e4
  have e3 := e3.symm
  subst e3
  intro M6 e6
  have k6 : mI M6 (a + 1) = mI M (a + 1) := by
    rw [e6, mI_sI, up2_off _ _ _ (by omega)]
  refine ⟨_, cp_X11_greatestTop G d (by omega) X M6 a nl hS (by rw [k6]; exact hn) hnl, ?_⟩
  rintro M9 r10 ⟨e9, e10⟩
  subst e10
  have e9 := e9.symm
  subst e9
  rintro M12 e12 M13 e13
  have k12 : mI M12 (a + 1) = mI M (a + 1) := by
    rw [e12, mI_sI, up2_off _ _ _ (by omega), k6]
  have k13 : mI M13 (a + 1) = mI M (a + 1) := by
    rw [e13, mI_sI, up2_off _ _ _ (by omega), k12]
  have off : ∀ b, b ≠ a + 18 → mI M13 b = mI M b := fun b hb => by
    rw [e13, mI_sI, up2_off _ _ _ hb, e12, mI_sI, up2_off _ _ _ hb, e6, mI_sI, up2_off _ _ _ hb]
  have offR : mR M13 = mR M := by
    rw [e13, e12, e6]
    rfl
  refine ⟨fun h0 => ?_, fun h0 => ⟨?_, fun b h1 h2 => off b h1, offR⟩⟩
  · rcases s_counts_spec (mI M (a + 1)) 6 nx with h1 | ⟨t, h1, h2, h3⟩
    · rw [h1] at h0
      exact absurd h0 (by decide)
    · have hTt := hT t h1 h3
      rw [h2]
      refine ⟨_, cp_X11_worked G d (by omega) X M13 a t hS (by omega) (by rw [k13]; exact hTt), ?_⟩
      rintro M17 r18 ⟨e18, o17, oR⟩
      refine ⟨?_, fun b h4 h5 => (o17 b h5).trans (off b h4), oR.trans offR⟩
      rw [e18, k13]
      unfold s_gas
      rw [h2, if_neg (nI_pos (by omega)), nI_clamp (by omega)]
      congr 1
      refine worth_cong hTt (fun c hc => ?_)
      rw [h3] at hc
      rw [e13, mI_sI, up2_row, k12, e12, mI_sI, up2_row, k6, e6, mI_sI, up2_row]
      rcases nm_6 hc with rfl | rfl | rfl <;> rfl
  · unfold s_gas
    rw [if_pos (i_nle.mp h0), k13]
theorem bX11_partGas_0 {G : Gl} {d : Nat} {X : Sh} {M : Mm} {Q : Mm → Prop} {a : Nat} (hS : Sh10 X a) (h : (∃ q1 : Mm → Int32 → Prop, Cn G m_X11_gasNow d [.ref a] X M q1 ∧ ∀ M3 r4, q1 M3 r4 → Wv G m_X11_partGas (d + 1) 7 [(0, .ref a), (1, .int r4), (2, .int 0)] [] X M3 Q)) : Wv G m_X11_partGas (d + 1) 0 [(0, .ref a)] [] X M Q := by
  refine wp_aload_n 0 dX11_partGas_0 rfl rfl ?_
  obtain ⟨q1, o2, h⟩ := h
  refine wp_cvi dX11_partGas_1 ck_RX11_178 (sh10_K hS) (as := []) rfl rfl (Nat.le_of_ble_eq_true rfl) o2 (fun M3 r4 o5 => ?_)
  replace h := h M3 r4 o5
  refine wp_istore_n (lo2 := [(1, .int _), (0, .ref _)]) dX11_partGas_4 rfl (by decide) rfl ?_
  refine wp_iconst (v := 0) dX11_partGas_5 rfl ?_
  refine wp_istore_n (lo2 := [(2, .int _), (1, .int _), (0, .ref _)]) dX11_partGas_6 rfl (by decide) rfl ?_
  exact Wp.sub [2, 1, 0] rfl h
theorem bX11_partGas_7 {G : Gl} {d : Nat} {X : Sh} {M : Mm} {Q : Mm → Prop} {a : Nat} {x1 : Int32} {x2 : Int32} (hS : Sh10 X a) (h : ((5 ≤ x2 → (∃ q2 : Mm → Prop, Cv G m_X11_part d [.ref a, .int x1] X M q2 ∧ ∀ M4, q2 M4 → Q M4)) ∧ (¬ (5 ≤ x2) → (∃ q6 : Mm → Int32 → Prop, Cn G m_X11_resistance d [.ref a, .int x2] X M q6 ∧ ∀ M8 r9, q6 M8 r9 → (¬ (r9 = 0) ∧ (∃ j12 : Nat, x2 = nI j12 ∧ j12 < 5 ∧ (∀ M15 : Mm, M15 = sJ M8 (a + 12) j12 ((((2 * x2 + 1) * 100000) / r9).toInt64) → Wv G m_X11_partGas (d + 1) 7 [(0, .ref a), (1, .int x1), (2, .int (x2 + 1))] [] X M15 Q))))))) : Wv G m_X11_partGas (d + 1) 7 [(0, .ref a), (1, .int x1), (2, .int x2)] [] X M Q := by
  refine wp_iload_n 2 dX11_partGas_7 rfl rfl ?_
  refine wp_iconst (v := 5) dX11_partGas_8 rfl ?_
  refine wp_icmp_ge (tgt := 38) dX11_partGas_9 (by decide) (fun c1 => ?_) (fun c1 => ?_)
  · replace h := h.1 c1
    refine wp_aload_n 0 dX11_partGas_38 rfl rfl ?_
    refine wp_iload_n 1 dX11_partGas_39 rfl rfl ?_
    obtain ⟨q2, o3, h⟩ := h
    refine wp_cvv dX11_partGas_40 ck_RX11_146 (sh10_K hS) (as := [.int x1]) rfl rfl (Nat.le_of_ble_eq_true rfl) o3 (fun M4 o5 => ?_)
    replace h := h M4 o5
    exact wv_ret dX11_partGas_43 rfl h
  · replace h := h.2 c1
    refine wp_aload_n 0 dX11_partGas_12 rfl rfl ?_
    refine wp_getR dX11_partGas_13 fl_RX11_43 rfl (sh10_K hS) (sh10_F_weights hS) ?_
    refine wp_iload_n 2 dX11_partGas_16 rfl rfl ?_
    refine wp_iload_n 2 dX11_partGas_17 rfl rfl ?_
    refine wp_csip dX11_partGas_18 ck_RX11_140 rfl (as := [.int x2]) rfl rfl (Nat.le_of_ble_eq_true rfl) (cp_X11_areaOf G d X M x2) ?_
    refine wp_ldc dX11_partGas_21 kc_RX11_181 ?_
    refine wp_imul dX11_partGas_23 ?_
    refine wp_aload_n 0 dX11_partGas_24 rfl rfl ?_
    refine wp_iload_n 2 dX11_partGas_25 rfl rfl ?_
    obtain ⟨q6, o7, h⟩ := h
    refine wp_cvi dX11_partGas_26 ck_RX11_182 (sh10_K hS) (as := [.int x2]) rfl rfl (Nat.le_of_ble_eq_true rfl) o7 (fun M8 r9 o10 => ?_)
    replace h := h M8 r9 o10
    obtain ⟨o11, h⟩ := h
    refine wp_idiv dX11_partGas_29 o11 ?_
    refine wp_i2l dX11_partGas_30 ?_
    obtain ⟨j12, o13, o14, h⟩ := h
    refine wp_last (n := 5) dX11_partGas_31 (sh10_K_weights hS) (sh10_N_weights hS) (by decide) o13 o14 ?_
    refine wp_nm (fun M15 eM15 => ?_)
    replace h := h M15 eM15
    refine wp_iinc (v := x2 + 1) (lo2 := [(2, .int _), (0, .ref _), (1, .int _)]) dX11_partGas_32 (q := 2) rfl rfl (by decide) rfl ?_
    refine wp_goto (tgt := 7) dX11_partGas_35 (by decide) ?_
    exact Wp.sub [1, 2, 0] rfl h
theorem cl_partGas (G : Gl) (d : Nat) (hd : 1 ≤ d) {X : Sh} {a nl : Nat} {gas : Int32} {Q : Mm → Prop} (hS : Sh10 X a) (M0 : Mm) (hn : mI M0 (a + 1) 1 = nI nl) (hnl : nl ≤ 24) (hb : LB (mI M0 (a + 1)) nl) (hres : ∀ r, r < 5 → ¬ s_res (mI M0 (a + 1)) nl r = 0)
    (hq : ∀ M2, (∀ r, r < 5 → mI M2 (a + 13) r = s_parts gas (s_wts (mI M0 (a + 1)) nl) r) → (∀ b, b ≠ a + 13 → mI M2 b = mI M0 b) → mR M2 = mR M0 → Q M2) :
    ∀ (n i : Nat) (M : Mm), i + n = 5 → (∀ r, r < i → mJ M (a + 12) r = s_wts (mI M0 (a + 1)) nl r) → mI M = mI M0 → mR M = mR M0 → Wv G m_X11_partGas (d + 1) 7 [(0, .ref a), (1, .int gas), (2, .int (nI i))] [] X M Q
  | 0, i, M, h, hw, h1, h2 => by
    have hi : i = 5 := h
    subst hi
    refine bX11_partGas_7 hS ⟨fun _ => ⟨_, cp_X11_part G d X M a gas hS, fun M4 h4 => hq M4 (fun r hr => ?_) (fun b hb2 => ?_) (h4.2.2.trans h2)⟩, fun h => absurd (by decide) h⟩
    · rw [h4.1 r hr]
      exact s_parts_cong hw r hr
    · rw [h4.2.1 b hb2, h1]
  | n + 1, i, M, h, hw, h1, h2 => by
    refine bX11_partGas_7 hS ⟨fun h2 => absurd h2 (n5 (by omega)), fun _ => ⟨_, cp_X11_resistance G d hd X M a i nl hS (by omega) (by rw [h1]; exact hn) hnl (fun l hl => by rw [h1]; exact (hb l hl).1), ?_⟩⟩
    rintro M8 r9 ⟨e8, e9⟩
    subst e9
    have e8 := e8.symm
    subst e8
    rw [h1]
    refine ⟨hres i (by omega), i, rfl, by omega, ?_⟩
    rintro M15 rfl
    rw [nI_1, (area_ok (show i < 5 by omega)).1]
    refine cl_partGas G d hd hS M0 hn hnl hb hres hq n (i + 1) _ (by omega) (fun r hr => ?_) h1 h2
    rw [mJ_sJ]
    by_cases e : r = i
    · subst e
      rw [up2_same]
      rfl
    · rw [up2_k _ _ _ e]
      exact hw r (by omega)
theorem cp_X11_partGas (G : Gl) (d : Nat) (hd : 5 ≤ d) (X : Sh) (M : Mm) (a nl nx : Nat) (hS : Sh10 X a) (hn : mI M (a + 1) 1 = nI nl) (hnl : nl ≤ 24) (hx : mI M (a + 1) 2 = nI nx) (hnx : nx ≤ 12) (hT : ∀ t, t < nx → mI M (a + 1) (340 + 200 * t) = 6 → T_ok (mI M (a + 1)) t) (hb : LB (mI M (a + 1)) nl) (hres : ∀ r, r < 5 → ¬ s_res (mI M (a + 1)) nl r = 0) :
    Cv G m_X11_partGas d [.ref a] X M (fun M2 => (∀ r, r < 5 → mI M2 (a + 13) r = s_parts (s_gas (mI M (a + 1)) nl nx) (s_wts (mI M (a + 1)) nl) r) ∧ (∀ b, b ≠ a + 13 → b ≠ a + 18 → b ≠ a + 19 → mI M2 b = mI M b) ∧ mR M2 = mR M) := by
  obtain ⟨d, rfl⟩ : ∃ d1, d = d1 + 1 := ⟨d - 1, by omega⟩
  refine Cv.of (by decide) (Nat.le_of_ble_eq_true rfl) (bX11_partGas_0 hS ⟨_, cp_X11_gasNow G d (by omega) X M a nl nx hS hn hnl hx hnx hT, ?_⟩)
  rintro M3 r4 ⟨e4, o3, oR⟩
  subst e4
  have k3 : mI M3 (a + 1) = mI M (a + 1) := o3 _ (by omega) (by omega)
  refine cl_partGas G d (by omega) hS M3 (by rw [k3]; exact hn) hnl (by rw [k3]; exact hb) (by rw [k3]; exact hres) (fun M2 h1 h2 h3 => ⟨fun r hr => ?_, fun b b1 b2 b3 => (h2 b b1).trans (o3 b b2 b3), h3.trans oR⟩) 5 0 M3 rfl (fun r hr => absurd hr (by omega)) rfl rfl
  rw [h1 r hr, k3]
theorem bX11_brings_0 {G : Gl} {d : Nat} {X : Sh} {M : Mm} {Q : Mm → Int32 → Prop} {a : Nat} {x1 : Int32} {x2 : Int32} {x3 : Int32} (hS : Sh10 X a) (hd : 1 ≤ d) (h : (∃ j1 : Nat, (20 + 5 * x1) = nI j1 ∧ j1 < 2950 ∧ (∀ v4 : Int32, v4 = (mI M (a + 1) j1) → (∃ j5 : Nat, ((20 + 5 * x1) + 1) = nI j5 ∧ j5 < 2950 ∧ (∀ v8 : Int32, v8 = (mI M (a + 1) j5) → ((¬ (x3 = 1) → ((¬ (x3 = 2) → Q M (f_lime v4 v8 x2)) ∧ (x3 = 2 → Q M (g_acid v4 v8 x2)))) ∧ (x3 = 1 → Q M (g_iron v4 v8 x2)))))))) : Wn G m_X11_brings (d + 1) 0 [(0, .ref a), (1, .int x1), (2, .int x2), (3, .int x3)] [] X M Q := by
  refine wp_aload_n 0 dX11_brings_0 rfl rfl ?_
  refine wp_getR dX11_brings_1 fl_RX11_7 rfl (sh10_K hS) (sh10_F_s hS) ?_
  refine wp_aload_n 0 dX11_brings_4 rfl rfl ?_
  refine wp_iload_n 1 dX11_brings_5 rfl rfl ?_
  refine wp_cvip dX11_brings_6 ck_RX11_86 (sh10_K hS) (as := [.int x1]) rfl rfl (Nat.le_of_ble_eq_true rfl) (cp_X11_binAt G d X M a x1 hS) ?_
  obtain ⟨j1, o2, o3, h⟩ := h
  refine wp_iald (n := 2950) dX11_brings_9 (sh10_K_s hS) (sh10_N_s hS) (by decide) o2 o3 ?_
  refine wp_topi (fun v4 ev4 => ?_)
  replace h := h v4 ev4
  refine wp_istore (lo2 := [(4, .int _), (0, .ref _), (1, .int _), (2, .int _), (3, .int _)]) dX11_brings_10 (by decide) rfl ?_
  refine wp_aload_n 1 dX11_brings_12 rfl rfl ?_
  refine wp_getR dX11_brings_13 fl_RX11_7 rfl (sh10_K hS) (sh10_F_s hS) ?_
  refine wp_aload_n 1 dX11_brings_16 rfl rfl ?_
  refine wp_iload_n 2 dX11_brings_17 rfl rfl ?_
  refine wp_cvip dX11_brings_18 ck_RX11_86 (sh10_K hS) (as := [.int x1]) rfl rfl (Nat.le_of_ble_eq_true rfl) (cp_X11_binAt G d X M a x1 hS) ?_
  refine wp_iconst (v := 1) dX11_brings_21 rfl ?_
  refine wp_iadd dX11_brings_22 ?_
  obtain ⟨j5, o6, o7, h⟩ := h
  refine wp_iald (n := 2950) dX11_brings_23 (sh10_K_s hS) (sh10_N_s hS) (by decide) o6 o7 ?_
  refine wp_topi (fun v8 ev8 => ?_)
  replace h := h v8 ev8
  refine wp_istore (lo2 := [(5, .int _), (4, .int _), (0, .ref _), (1, .int _), (2, .int _), (3, .int _)]) dX11_brings_24 (by decide) rfl ?_
  refine wp_iload_n 5 dX11_brings_26 rfl rfl ?_
  refine wp_iconst (v := 1) dX11_brings_27 rfl ?_
  refine wp_icmp_ne (tgt := 42) dX11_brings_28 (by decide) (fun c9 => ?_) (fun c9 => ?_)
  · replace h := h.1 c9
    refine wp_iload_n 5 dX11_brings_42 rfl rfl ?_
    refine wp_iconst (v := 2) dX11_brings_43 rfl ?_
    refine wp_icmp_ne (tgt := 58) dX11_brings_44 (by decide) (fun c10 => ?_) (fun c10 => ?_)
    · replace h := h.1 c10
      refine wp_iload 1 dX11_brings_58 rfl ?_
      refine wp_iload 0 dX11_brings_60 rfl ?_
      refine wp_iload_n 4 dX11_brings_62 rfl rfl ?_
      refine wp_csip dX11_brings_63 ck_RX11_93 rfl (as := [.int v4, .int v8, .int x2]) rfl rfl (Nat.le_of_ble_eq_true rfl) (cp_X11_limeOf G d X M v4 v8 x2) ?_
      exact wn_iret dX11_brings_66 rfl h
    · replace h := h.2 c10
      refine wp_iload 1 dX11_brings_47 rfl ?_
      refine wp_iload 0 dX11_brings_49 rfl ?_
      refine wp_iload_n 4 dX11_brings_51 rfl rfl ?_
      refine wp_csip dX11_brings_52 ck_RX11_90 rfl (as := [.int v4, .int v8, .int x2]) rfl rfl (Nat.le_of_ble_eq_true rfl) (cp_X11_acidOf G d (by omega) X M v4 v8 x2) ?_
      refine wp_goto (tgt := 66) dX11_brings_55 (by decide) ?_
      exact wn_iret dX11_brings_66 rfl h
  · replace h := h.2 c9
    refine wp_iload 1 dX11_brings_31 rfl ?_
    refine wp_iload 0 dX11_brings_33 rfl ?_
    refine wp_iload_n 4 dX11_brings_35 rfl rfl ?_
    refine wp_csip dX11_brings_36 ck_RX11_82 rfl (as := [.int v4, .int v8, .int x2]) rfl rfl (Nat.le_of_ble_eq_true rfl) (cp_X11_ironOf G d X M v4 v8 x2) ?_
    refine wp_goto (tgt := 66) dX11_brings_39 (by decide) ?_
    exact wn_iret dX11_brings_66 rfl h
theorem cp_X11_brings (G : Gl) (d : Nat) (hd : 2 ≤ d) (X : Sh) (M : Mm) (a b : Nat) (t w : Int32) (hS : Sh10 X a) (hb : b < 6) : Cn G m_X11_brings d [.ref a, .int (nI b), .int t, .int w] X M (fun M2 x => M2 = M ∧ x = g_amt (mI M (a + 1) (20 + 5 * b)) (mI M (a + 1) (21 + 5 * b)) t w) := by
  obtain ⟨d, rfl⟩ : ∃ d1, d = d1 + 1 := ⟨d - 1, by omega⟩
  refine Cn.of (by decide) (Nat.le_of_ble_eq_true rfl) (bX11_brings_0 hS (by omega) ⟨20 + 5 * b, (by first | rfl | (simp only [n_lit, nI_add, pk_mul]; done) | (simp only [n_lit, nI_add, pk_mul]; exact congrArg nI (by omega))), by omega, ?_⟩)
  rintro v4 rfl
  refine ⟨21 + 5 * b, (by first | rfl | (simp only [n_lit, nI_add, pk_mul]; done) | (simp only [n_lit, nI_add, pk_mul]; exact congrArg nI (by omega))), by omega, ?_⟩
  rintro v8 rfl
  refine ⟨fun h1 => ⟨fun h2 => ⟨rfl, ?_⟩, fun h2 => ⟨rfl, ?_⟩⟩, fun h1 => ⟨rfl, ?_⟩⟩
  · simp [g_amt, h1, h2]
  · simp [g_amt, h2]
  · simp [g_amt, h1]
theorem bX11_goes_0 {G : Gl} {d : Nat} {X : Sh} {M : Mm} {Q : Mm → Prop} {a : Nat} {x1 : Int32} {x2 : Int32} {x3 : Int32} (hS : Sh10 X a) (h : (∀ v1 : Int32, v1 = (60 + 10 * x1) → Wv G m_X11_goes (d + 1) 10 [(0, .ref a), (2, .int x2), (3, .int x3), (4, .int v1), (5, .int 1)] [] X M Q)) : Wv G m_X11_goes (d + 1) 0 [(0, .ref a), (1, .int x1), (2, .int x2), (3, .int x3)] [] X M Q := by
  refine wp_aload_n 0 dX11_goes_0 rfl rfl ?_
  refine wp_iload_n 1 dX11_goes_1 rfl rfl ?_
  refine wp_cvip dX11_goes_2 ck_RX11_134 (sh10_K hS) (as := [.int x1]) rfl rfl (Nat.le_of_ble_eq_true rfl) (cp_X11_layerAt G d X M a x1 hS) ?_
  refine wp_topi (fun v1 ev1 => ?_)
  replace h := h v1 ev1
  refine wp_istore (lo2 := [(4, .int _), (0, .ref _), (1, .int _), (2, .int _), (3, .int _)]) dX11_goes_5 (by decide) rfl ?_
  refine wp_iconst (v := 1) dX11_goes_7 rfl ?_
  refine wp_istore (lo2 := [(5, .int _), (4, .int _), (0, .ref _), (1, .int _), (2, .int _), (3, .int _)]) dX11_goes_8 (by decide) rfl ?_
  exact Wp.sub [2, 4, 5, 1, 0] rfl h
theorem bX11_goes_10 {G : Gl} {d : Nat} {X : Sh} {M : Mm} {Q : Mm → Prop} {a : Nat} {x2 : Int32} {x3 : Int32} {x4 : Int32} {x5 : Int32} (hS : Sh10 X a) (h : ((4 ≤ x5 → (∃ j2 : Nat, (x4 + 4) = nI j2 ∧ j2 < 2950 ∧ (∀ M5 : Mm, M5 = sI M (a + 1) j2 ((mI M (a + 1) j2) + x3) → (∃ j6 : Nat, ((x4 + 5) + x2) = nI j6 ∧ j6 < 2950 ∧ (∀ M9 : Mm, M9 = sI M5 (a + 1) j6 ((mI M5 (a + 1) j6) - x3) → Q M9))))) ∧ (¬ (4 ≤ x5) → (∃ j10 : Nat, x4 = nI j10 ∧ j10 < 2950 ∧ (∃ j13 : Nat, (x4 + 2) = nI j13 ∧ j13 < 2950 ∧ (∃ q16 : Mm → Int32 → Prop, Cn G m_X11_brings d [.ref a, .int ((mI M (a + 1) j10)), .int ((mI M (a + 1) j13)), .int x5] X M q16 ∧ ∀ M18 r19, q16 M18 r19 → (∀ w21 : Int64, w21 = r19.toInt64 → (∃ j22 : Nat, (x4 + 4) = nI j22 ∧ j22 < 2950 ∧ (∃ j25 : Nat, (x4 + 3) = nI j25 ∧ j25 < 2950 ∧ (¬ ((mI M18 (a + 1) j25).toInt64 = 0) ∧ (∀ w29 : Int64, w29 = ((w21 * (mI M18 (a + 1) j22).toInt64) / (mI M18 (a + 1) j25).toInt64) → (∃ j30 : Nat, ((9 + x5) - 1) = nI j30 ∧ j30 < 2950 ∧ (¬ ((mI M18 (a + 1) j25).toInt64 = 0) ∧ (∀ M34 : Mm, M34 = sI M18 (a + 1) j30 ((mI M18 (a + 1) j30) + (((w21 * ((mI M18 (a + 1) j22) + x3).toInt64) / (mI M18 (a + 1) j25).toInt64) - w29).toInt32) → Wv G m_X11_goes (d + 1) 10 [(0, .ref a), (2, .int x2), (3, .int x3), (4, .int x4), (5, .int (x5 + 1))] [] X M34 Q)))))))))))))) : Wv G m_X11_goes (d + 1) 10 [(0, .ref a), (2, .int x2), (3, .int x3), (4, .int x4), (5, .int x5)] [] X M Q := by
  refine wp_iload 4 dX11_goes_10 rfl ?_
  refine wp_iconst (v := 4) dX11_goes_12 rfl ?_
  refine wp_icmp_ge (tgt := 118) dX11_goes_13 (by decide) (fun c1 => ?_) (fun c1 => ?_)
  · replace h := h.1 c1
    refine wp_aload_n 0 dX11_goes_118 rfl rfl ?_
    refine wp_getR dX11_goes_119 fl_RX11_7 rfl (sh10_K hS) (sh10_F_s hS) ?_
    refine wp_iload 3 dX11_goes_122 rfl ?_
    refine wp_iconst (v := 4) dX11_goes_124 rfl ?_
    refine wp_iadd dX11_goes_125 ?_
    refine wp_dup2_11 dX11_goes_126 rfl rfl ?_
    obtain ⟨j2, o3, o4, h⟩ := h
    refine wp_iald (n := 2950) dX11_goes_127 (sh10_K_s hS) (sh10_N_s hS) (by decide) o3 o4 ?_
    refine wp_iload_n 2 dX11_goes_128 rfl rfl ?_
    refine wp_iadd dX11_goes_129 ?_
    refine wp_iast (n := 2950) dX11_goes_130 (sh10_K_s hS) (sh10_N_s hS) (by decide) o3 o4 ?_
    refine wp_nm (fun M5 eM5 => ?_)
    replace h := h M5 eM5
    refine wp_aload_n 0 dX11_goes_131 rfl rfl ?_
    refine wp_getR dX11_goes_132 fl_RX11_7 rfl (sh10_K hS) (sh10_F_s hS) ?_
    refine wp_iload 3 dX11_goes_135 rfl ?_
    refine wp_iconst (v := 5) dX11_goes_137 rfl ?_
    refine wp_iadd dX11_goes_138 ?_
    refine wp_iload_n 1 dX11_goes_139 rfl rfl ?_
    refine wp_iadd dX11_goes_140 ?_
    refine wp_dup2_11 dX11_goes_141 rfl rfl ?_
    obtain ⟨j6, o7, o8, h⟩ := h
    refine wp_iald (n := 2950) dX11_goes_142 (sh10_K_s hS) (sh10_N_s hS) (by decide) o7 o8 ?_
    refine wp_iload_n 2 dX11_goes_143 rfl rfl ?_
    refine wp_isub dX11_goes_144 ?_
    refine wp_iast (n := 2950) dX11_goes_145 (sh10_K_s hS) (sh10_N_s hS) (by decide) o7 o8 ?_
    refine wp_nm (fun M9 eM9 => ?_)
    replace h := h M9 eM9
    exact wv_ret dX11_goes_146 rfl h
  · replace h := h.2 c1
    refine wp_aload_n 0 dX11_goes_16 rfl rfl ?_
    refine wp_aload_n 0 dX11_goes_17 rfl rfl ?_
    refine wp_getR dX11_goes_18 fl_RX11_7 rfl (sh10_K hS) (sh10_F_s hS) ?_
    refine wp_iload 3 dX11_goes_21 rfl ?_
    obtain ⟨j10, o11, o12, h⟩ := h
    refine wp_iald (n := 2950) dX11_goes_23 (sh10_K_s hS) (sh10_N_s hS) (by decide) o11 o12 ?_
    refine wp_aload_n 0 dX11_goes_24 rfl rfl ?_
    refine wp_getR dX11_goes_25 fl_RX11_7 rfl (sh10_K hS) (sh10_F_s hS) ?_
    refine wp_iload 3 dX11_goes_28 rfl ?_
    refine wp_iconst (v := 2) dX11_goes_30 rfl ?_
    refine wp_iadd dX11_goes_31 ?_
    obtain ⟨j13, o14, o15, h⟩ := h
    refine wp_iald (n := 2950) dX11_goes_32 (sh10_K_s hS) (sh10_N_s hS) (by decide) o14 o15 ?_
    refine wp_iload 4 dX11_goes_33 rfl ?_
    obtain ⟨q16, o17, h⟩ := h
    refine wp_cvi dX11_goes_35 ck_RX11_117 (sh10_K hS) (as := [.int ((mI M (a + 1) j10)), .int ((mI M (a + 1) j13)), .int x5]) rfl rfl (Nat.le_of_ble_eq_true rfl) o17 (fun M18 r19 o20 => ?_)
    replace h := h M18 r19 o20
    refine wp_i2l dX11_goes_38 ?_
    refine wp_topl (fun w21 ew21 => ?_)
    replace h := h w21 ew21
    refine wp_lstore (lo2 := [(6, .long _), (0, .ref _), (2, .int _), (3, .int _), (4, .int _), (5, .int _)]) dX11_goes_39 (by decide) rfl ?_
    refine wp_lload 0 dX11_goes_41 rfl ?_
    refine wp_aload_n 1 dX11_goes_43 rfl rfl ?_
    refine wp_getR dX11_goes_44 fl_RX11_7 rfl (sh10_K hS) (sh10_F_s hS) ?_
    refine wp_iload 4 dX11_goes_47 rfl ?_
    refine wp_iconst (v := 4) dX11_goes_49 rfl ?_
    refine wp_iadd dX11_goes_50 ?_
    obtain ⟨j22, o23, o24, h⟩ := h
    refine wp_iald (n := 2950) dX11_goes_51 (sh10_K_s hS) (sh10_N_s hS) (by decide) o23 o24 ?_
    refine wp_i2l dX11_goes_52 ?_
    refine wp_lmul dX11_goes_53 ?_
    refine wp_aload_n 1 dX11_goes_54 rfl rfl ?_
    refine wp_getR dX11_goes_55 fl_RX11_7 rfl (sh10_K hS) (sh10_F_s hS) ?_
    refine wp_iload 4 dX11_goes_58 rfl ?_
    refine wp_iconst (v := 3) dX11_goes_60 rfl ?_
    refine wp_iadd dX11_goes_61 ?_
    obtain ⟨j25, o26, o27, h⟩ := h
    refine wp_iald (n := 2950) dX11_goes_62 (sh10_K_s hS) (sh10_N_s hS) (by decide) o26 o27 ?_
    refine wp_i2l dX11_goes_63 ?_
    obtain ⟨o28, h⟩ := h
    refine wp_ldiv dX11_goes_64 o28 ?_
    refine wp_topl (fun w29 ew29 => ?_)
    replace h := h w29 ew29
    refine wp_lstore (lo2 := [(8, .long _), (6, .long _), (0, .ref _), (2, .int _), (3, .int _), (4, .int _), (5, .int _)]) dX11_goes_65 (by decide) rfl ?_
    refine wp_aload_n 2 dX11_goes_67 rfl rfl ?_
    refine wp_getR dX11_goes_68 fl_RX11_7 rfl (sh10_K hS) (sh10_F_s hS) ?_
    refine wp_bipush (v := 9) dX11_goes_71 rfl ?_
    refine wp_iload 6 dX11_goes_73 rfl ?_
    refine wp_iadd dX11_goes_75 ?_
    refine wp_iconst (v := 1) dX11_goes_76 rfl ?_
    refine wp_isub dX11_goes_77 ?_
    refine wp_dup2_11 dX11_goes_78 rfl rfl ?_
    obtain ⟨j30, o31, o32, h⟩ := h
    refine wp_iald (n := 2950) dX11_goes_79 (sh10_K_s hS) (sh10_N_s hS) (by decide) o31 o32 ?_
    refine wp_lload 1 dX11_goes_80 rfl ?_
    refine wp_aload_n 2 dX11_goes_82 rfl rfl ?_
    refine wp_getR dX11_goes_83 fl_RX11_7 rfl (sh10_K hS) (sh10_F_s hS) ?_
    refine wp_iload 5 dX11_goes_86 rfl ?_
    refine wp_iconst (v := 4) dX11_goes_88 rfl ?_
    refine wp_iadd dX11_goes_89 ?_
    refine wp_iald (n := 2950) dX11_goes_90 (sh10_K_s hS) (sh10_N_s hS) (by decide) o23 o24 ?_
    refine wp_iload_n 4 dX11_goes_91 rfl rfl ?_
    refine wp_iadd dX11_goes_92 ?_
    refine wp_i2l dX11_goes_93 ?_
    refine wp_lmul dX11_goes_94 ?_
    refine wp_aload_n 2 dX11_goes_95 rfl rfl ?_
    refine wp_getR dX11_goes_96 fl_RX11_7 rfl (sh10_K hS) (sh10_F_s hS) ?_
    refine wp_iload 5 dX11_goes_99 rfl ?_
    refine wp_iconst (v := 3) dX11_goes_101 rfl ?_
    refine wp_iadd dX11_goes_102 ?_
    refine wp_iald (n := 2950) dX11_goes_103 (sh10_K_s hS) (sh10_N_s hS) (by decide) o26 o27 ?_
    refine wp_i2l dX11_goes_104 ?_
    obtain ⟨o33, h⟩ := h
    refine wp_ldiv dX11_goes_105 o33 ?_
    refine wp_lload 0 dX11_goes_106 rfl ?_
    refine wp_lsub dX11_goes_108 ?_
    refine wp_l2i dX11_goes_109 ?_
    refine wp_iadd dX11_goes_110 ?_
    refine wp_iast (n := 2950) dX11_goes_111 (sh10_K_s hS) (sh10_N_s hS) (by decide) o31 o32 ?_
    refine wp_nm (fun M34 eM34 => ?_)
    replace h := h M34 eM34
    refine wp_iinc (v := x5 + 1) (lo2 := [(5, .int _), (8, .long _), (6, .long _), (0, .ref _), (2, .int _), (3, .int _), (4, .int _)]) dX11_goes_112 (q := 6) rfl rfl (by decide) rfl ?_
    refine wp_goto (tgt := 10) dX11_goes_115 (by decide) ?_
    exact Wp.sub [3, 4, 5, 6, 0] rfl h
/-- the hearth behind the first of the three amounts -/
def s_hst (σ : Nat → Int32) (l : Nat) (x : Int32) : Nat → Nat → Int32
  | 0 => σ
  | n + 1 => upd (s_hst σ l x n) (9 + n) (s_hst σ l x n (9 + n) + s_inc (s_amt σ l (nI (n + 1))) (σ (64 + 10 * l)) (σ (63 + 10 * l)) x)
theorem s_hst_off {σ : Nat → Int32} {l : Nat} {x : Int32} : ∀ {n k : Nat}, (k < 9 ∨ 9 + n ≤ k) → s_hst σ l x n k = σ k
  | 0, _, _ => rfl
  | n + 1, k, h => by
    show upd (s_hst σ l x n) (9 + n) _ k = σ k
    unfold upd
    rw [if_neg (by omega)]
    exact s_hst_off (by omega)
theorem cl_goes (G : Gl) (d : Nat) (hd : 2 ≤ d) {X : Sh} {a l r b : Nat} {x : Int32} {Q : Mm → Prop} (hS : Sh10 X a) (hl : l < 24) (hr : r < 5) (M0 : Mm) (hb : b < 6) (hbin : mI M0 (a + 1) (60 + 10 * l) = nI b) (hw : ¬ mI M0 (a + 1) (63 + 10 * l) = 0)
    (hq : ∀ M2, mI M2 (a + 1) = s_goes (mI M0 (a + 1)) l r x → (∀ b, b ≠ a + 1 → mI M2 b = mI M0 b) → mR M2 = mR M0 → Q M2) :
    ∀ (n i : Nat) (M : Mm), i + n = 3 → mI M (a + 1) = s_hst (mI M0 (a + 1)) l x i → (∀ b, b ≠ a + 1 → mI M b = mI M0 b) → mR M = mR M0 → Wv G m_X11_goes (d + 1) 10 [(0, .ref a), (2, .int (nI r)), (3, .int x), (4, .int (nI (60 + 10 * l))), (5, .int (nI (i + 1)))] [] X M Q
  | 0, i, M, h, hs, h1, h2 => by
    have hi : i = 3 := h
    subst hi
    refine bX11_goes_10 hS ⟨fun _ => ⟨64 + 10 * l, (by first | rfl | (simp only [n_lit, nI_add, pk_mul]; done) | (simp only [n_lit, nI_add, pk_mul]; exact congrArg nI (by omega))), by omega, ?_⟩, fun h => absurd (by decide) h⟩
    rintro M5 e5
    refine ⟨65 + 10 * l + r, (by first | rfl | (simp only [n_lit, nI_add, pk_mul]; done) | (simp only [n_lit, nI_add, pk_mul]; exact congrArg nI (by omega))), by omega, ?_⟩
    rintro M9 e9
    refine hq M9 ?_ (fun b hb => ?_) ?_
    · rw [e9, mI_sI, up2_row, e5, mI_sI, up2_row, hs]
      funext k
      have e64 : s_hst (mI M0 (a + 1)) l x 3 (64 + 10 * l) = mI M0 (a + 1) (64 + 10 * l) := s_hst_off (by omega)
      have e65 : s_hst (mI M0 (a + 1)) l x 3 (65 + 10 * l + r) = mI M0 (a + 1) (65 + 10 * l + r) := s_hst_off (by omega)
      unfold s_goes
      simp only [upd, e64, e65]
      by_cases k9 : k = 9
      · subst k9
        rw [if_neg (by omega), if_neg (by omega), if_pos rfl]
        rfl
      · by_cases k10 : k = 10
        · subst k10
          rw [if_neg (by omega), if_neg (by omega), if_neg (by omega), if_pos rfl]
          rfl
        · by_cases k11 : k = 11
          · subst k11
            rw [if_neg (by omega), if_neg (by omega), if_neg (by omega), if_neg (by omega), if_pos rfl]
            rfl
          · rw [if_neg k9, if_neg k10, if_neg k11]
            by_cases k64 : k = 64 + 10 * l
            · subst k64
              rw [if_neg (by omega), if_pos rfl, if_pos rfl]
            · by_cases k65 : k = 65 + 10 * l + r
              · subst k65
                rw [if_pos rfl, if_neg (by omega), if_neg (by omega), if_pos rfl]
              · rw [if_neg k65, if_neg k64, if_neg k64, if_neg k65]
                exact s_hst_off (by omega)
    · rw [e9, mI_sI, up2_off _ _ _ hb, e5, mI_sI, up2_off _ _ _ hb]
      exact h1 b hb
    · rw [e9, e5]
      exact h2
  | n + 1, i, M, h, hs, h1, h2 => by
    have o : ∀ k, 20 ≤ k → mI M (a + 1) k = mI M0 (a + 1) k := fun k hk => by
      rw [hs]
      exact s_hst_off (by omega)
    refine bX11_goes_10 hS ⟨fun h2 => ?_, fun _ => ⟨60 + 10 * l, rfl, by omega, 62 + 10 * l, (by first | rfl | (simp only [n_lit, nI_add, pk_mul]; done) | (simp only [n_lit, nI_add, pk_mul]; exact congrArg nI (by omega))), by omega, ?_⟩⟩
    · have := (nI_leI (a := 4) (by omega) (by omega)).mp h2
      omega
    rw [o _ (by omega), hbin]
    refine ⟨_, cp_X11_brings G d hd X M a b _ _ hS hb, ?_⟩
    rintro M18 r19 ⟨e18, e19⟩
    have e18 := e18.symm
    subst e18
    subst e19
    rintro w21 rfl
    refine ⟨64 + 10 * l, (by first | rfl | (simp only [n_lit, nI_add, pk_mul]; done) | (simp only [n_lit, nI_add, pk_mul]; exact congrArg nI (by omega))), by omega, 63 + 10 * l, (by first | rfl | (simp only [n_lit, nI_add, pk_mul]; done) | (simp only [n_lit, nI_add, pk_mul]; exact congrArg nI (by omega))), by omega, ?_⟩
    rw [o (63 + 10 * l) (by omega), o (64 + 10 * l) (by omega), o (62 + 10 * l) (by omega), o (20 + 5 * b) (by omega), o (21 + 5 * b) (by omega)]
    refine ⟨lw_ne0 hw, ?_⟩
    rintro w29 rfl
    refine ⟨9 + i, ?_, by omega, lw_ne0 hw, ?_⟩
    · have e : 9 + nI (i + 1) - 1 = nI (9 + i) := by
        rw [show (9 : Int32) + nI (i + 1) = nI (9 + i + 1) from (by first | rfl | (simp only [n_lit, nI_add, pk_mul]; done) | (simp only [n_lit, nI_add, pk_mul]; exact congrArg nI (by omega))), nI_pred]
      exact e
    rintro M34 e34
    rw [nI_1]
    refine cl_goes G d hd hS hl hr M0 hb hbin hw hq n (i + 1) M34 (by omega) ?_ (fun b hb => ?_) ?_
    · rw [e34, mI_sI, up2_row, hs]
      show _ = upd (s_hst (mI M0 (a + 1)) l x i) (9 + i) _
      congr 1
      unfold s_inc s_amt
      rw [hbin, nI_clamp (by omega)]
    · rw [e34, mI_sI, up2_off _ _ _ hb]
      exact h1 b hb
    · rw [e34]
      exact h2
theorem cp_X11_goes (G : Gl) (d : Nat) (hd : 3 ≤ d) (X : Sh) (M : Mm) (a l r b : Nat) (x : Int32) (hS : Sh10 X a) (hl : l < 24) (hr : r < 5) (hb : b < 6) (hbin : mI M (a + 1) (60 + 10 * l) = nI b) (hw : ¬ mI M (a + 1) (63 + 10 * l) = 0) :
    Cv G m_X11_goes d [.ref a, .int (nI l), .int (nI r), .int x] X M (fun M2 => mI M2 (a + 1) = s_goes (mI M (a + 1)) l r x ∧ (∀ b, b ≠ a + 1 → mI M2 b = mI M b) ∧ mR M2 = mR M) := by
  obtain ⟨d, rfl⟩ : ∃ d1, d = d1 + 1 := ⟨d - 1, by omega⟩
  refine Cv.of (by decide) (Nat.le_of_ble_eq_true rfl) (bX11_goes_0 hS ?_)
  rintro v1 rfl
  have e : 60 + 10 * nI l = nI (60 + 10 * l) := (by first | rfl | (simp only [n_lit, nI_add, pk_mul]; done) | (simp only [n_lit, nI_add, pk_mul]; exact congrArg nI (by omega)))
  rw [e]
  exact cl_goes G d (by omega) hS hl hr M hb hbin hw (fun M2 h1 h2 h3 => ⟨h1, h2, h3⟩) 3 0 M rfl rfl (fun _ _ => rfl) rfl
