/-! the calls tops, copy -/
/-- n places from p on are g's -/
def updR (f : Nat → Int32) (p n : Nat) (g : Nat → Int32) : Nat → Int32 := fun j => if p ≤ j ∧ j < p + n then g (j - p) else f j
theorem updR_0 (f : Nat → Int32) (p : Nat) (g : Nat → Int32) : updR f p 0 g = f := by
  funext j
  exact if_neg (by omega)
theorem updR_s (f : Nat → Int32) (p n : Nat) (g : Nat → Int32) : upd (updR f p n g) (p + n) (g n) = updR f p (n + 1) g := by
  funext j
  unfold updR
  by_cases e : j = p + n
  · subst e
    rw [upd_eq, if_pos (by omega), show p + n - p = n by omega]
  · rw [upd_ne e]
    by_cases e2 : p ≤ j ∧ j < p + n
    · rw [if_pos e2, if_pos (by omega)]
    · rw [if_neg e2, if_neg (by omega)]
theorem updR_in {f : Nat → Int32} {p n j : Nat} {g : Nat → Int32} (h : p ≤ j ∧ j < p + n) : updR f p n g j = g (j - p) := if_pos h
theorem updR_out {f : Nat → Int32} {p n j : Nat} {g : Nat → Int32} (h : ¬ (p ≤ j ∧ j < p + n)) : updR f p n g j = f j := if_neg h
theorem bulkIn_nat {σ : Nat → Int32} {r : Nat} (hr : r < 5) : ∀ {nl : Nat}, FW σ nl → ∃ B, B ≤ nl * 20000 ∧ s_bulkIn σ r nl = nI B
  | 0, _ => ⟨0, by omega, rfl⟩
  | nl + 1, h => by
    obtain ⟨B, h1, h2⟩ := bulkIn_nat hr (nl := nl) (fun l hl => h l (by omega))
    obtain ⟨b, k, sh, t, w, g, ρ, hb, hk, hsh, ht, hw1, hw2, e0, ek, es, et, ew, eg, er, hs⟩ := h nl (by omega)
    have hρ : ρ r ≤ nsum ρ 5 := nsum_at hr
    refine ⟨B + ρ r, by omega, ?_⟩
    show s_bulkIn σ r nl + σ (65 + 10 * nl + r) = _
    rw [h2, er r hr, nI_add]
theorem top_nat {σ : Nat → Int32} {r nl : Nat} (hr : r < 5) (hnl : nl ≤ 24) (h : FW σ nl) : ∃ z, z < 2147483648 ∧ s_top σ nl r = nI z := by
  obtain ⟨B, h1, h2⟩ := bulkIn_nat hr h
  have h3 : B * 100 / (2 * r + 1) ≤ B * 100 := Nat.div_le_self _ _
  refine ⟨B * 100 / (2 * r + 1), by omega, ?_⟩
  unfold s_top
  rw [h2, area_nat hr, n_lit 100, pk_mul, nI_div (by omega) (by omega) (by omega)]
theorem nat_ne {z : Nat} (h : z < 2147483648) : ¬ nI z = -1000000005 := fun q => nI_pos (n := z) (by omega) (by
  rw [q]
  decide)
/-- a top as a sheet of this sort keeps it -/
def tpv (σ : Nat → Int32) (nl : Nat) (s : Int32) (r : Nat) : Int32 := if s = 0 then (s_top σ nl r).toInt16.toInt32 else s_top σ nl r
theorem tpv_ne {σ : Nat → Int32} {r nl : Nat} {s : Int32} (hr : r < 5) (hnl : nl ≤ 24) (h : FW σ nl) : ¬ tpv σ nl s r = -1000000005 := by
  unfold tpv
  by_cases e : s = 0
  · rw [if_pos e]
    exact short_ne _
  · rw [if_neg e]
    obtain ⟨z, h1, h2⟩ := top_nat hr hnl h
    rw [h2]
    exact nat_ne h1
theorem bX10_tops_0 {G : Gl} {d : Nat} {X : Sh} {M : Mm} {Q : Mm → Int32 → Prop} {a : Nat} {x1 : Int32} {x2 : Int32} (hS : Sh9 X a) (hd : 1 ≤ d) (h : ((0 ≤ x1 ∧ x1 ≤ 3 → (∃ j2 : Nat, x1 = nI j2 ∧ j2 < 4 ∧ ((¬ ((mI M (a + 232 + 3 * j2) 0) = (-1)) → ((0 ≤ x2 ∧ x2 < mI M (a + 232 + 3 * j2) 1 → (∀ v7 : Int32, v7 = (if ((mI M (a + 232 + 3 * j2) 1) - x2) < 5 then ((mI M (a + 232 + 3 * j2) 1) - x2) else 5) → Wn G m_X10_tops (d + 1) 56 [(0, .ref a), (2, .int x2), (3, .ref (a + 232 + 3 * j2)), (4, .int v7), (5, .int 0)] [] X M Q)) ∧ (¬ (0 ≤ x2 ∧ x2 < mI M (a + 232 + 3 * j2) 1) → Q M (-1000000013)))) ∧ ((mI M (a + 232 + 3 * j2) 0) = (-1) → Q M (-1000000011))))) ∧ (¬ (0 ≤ x1 ∧ x1 ≤ 3) → Q M (-1000000001)))) : Wn G m_X10_tops (d + 1) 0 [(0, .ref a), (1, .int x1), (2, .int x2)] [] X M Q := by
  refine wp_iload_n 1 dX10_tops_0 rfl rfl ?_
  refine wp_csip dX10_tops_1 ck_RX10_271 rfl (as := [.int x1]) rfl rfl (Nat.le_of_ble_eq_true rfl) (cp_X10_isSheet G d (by omega) X M x1) ?_
  refine wp_ifB_ne (inferInstance) (tgt := 10) dX10_tops_4 (by decide) (fun c1 => ?_) (fun c1 => ?_)
  · replace h := h.1 c1
    refine wp_aload_n 0 dX10_tops_10 rfl rfl ?_
    refine wp_getR dX10_tops_11 fl_RX10_39 rfl (sh9_K hS) (sh9_F_sheets hS) ?_
    refine wp_iload_n 1 dX10_tops_14 rfl rfl ?_
    obtain ⟨j2, o3, o4, h⟩ := h
    refine wp_fald (n := 4) dX10_tops_15 (Or.inl (sh9_K_sheets hS)) (sh9_N_sheets hS) (by decide) o3 o4 (sh9_E_sheets hS j2 o4) ?_
    refine wp_astore_n (lo2 := [(3, .ref _), (0, .ref _), (1, .int _), (2, .int _)]) dX10_tops_16 rfl (by decide) rfl ?_
    refine wp_aload_n 0 dX10_tops_17 rfl rfl ?_
    refine wp_getI dX10_tops_18 fl_RX10_278 rfl (sh5_K (sh9_ES_sheets hS j2 o4)) ?_
    refine wp_iconst (v := (-1)) dX10_tops_21 rfl ?_
    refine wp_icmp_ne (tgt := 29) dX10_tops_22 (by decide) (fun c5 => ?_) (fun c5 => ?_)
    · replace h := h.1 c5
      refine wp_aload_n 0 dX10_tops_29 rfl rfl ?_
      refine wp_iload_n 3 dX10_tops_30 rfl rfl ?_
      refine wp_cvip dX10_tops_31 ck_RX10_282 (sh5_K (sh9_ES_sheets hS j2 o4)) (as := [.int x2]) rfl rfl (Nat.le_of_ble_eq_true rfl) (cp_X5_has G d X M (a + 232 + 3 * j2) x2 (sh9_ES_sheets hS j2 o4)) ?_
      refine wp_ifB_ne (inferInstance) (tgt := 41) dX10_tops_34 (by decide) (fun c6 => ?_) (fun c6 => ?_)
      · replace h := h.1 c6
        refine wp_iconst (v := 5) dX10_tops_41 rfl ?_
        refine wp_aload_n 0 dX10_tops_42 rfl rfl ?_
        refine wp_getI dX10_tops_43 fl_RX10_297 rfl (sh5_K (sh9_ES_sheets hS j2 o4)) ?_
        refine wp_iload_n 3 dX10_tops_46 rfl rfl ?_
        refine wp_isub dX10_tops_47 ?_
        refine wp_mmin dX10_tops_48 ml_RX10_262 ms_min mi_Math mc_min (Nat.le_of_ble_eq_true rfl) (Nat.le_refl _) (Nat.le_refl _) ?_
        refine wp_topi (fun v7 ev7 => ?_)
        replace h := h v7 ev7
        refine wp_istore (lo2 := [(4, .int _), (3, .ref _), (0, .ref _), (1, .int _), (2, .int _)]) dX10_tops_51 (by decide) rfl ?_
        refine wp_iconst (v := 0) dX10_tops_53 rfl ?_
        refine wp_istore (lo2 := [(5, .int _), (4, .int _), (3, .ref _), (0, .ref _), (1, .int _), (2, .int _)]) dX10_tops_54 (by decide) rfl ?_
        exact Wp.sub [3, 5, 2, 1, 0] rfl h
      · replace h := h.2 c6
        refine wp_ldcw dX10_tops_37 kc_RX10_283 ?_
        exact wn_iret dX10_tops_40 rfl h
    · replace h := h.2 c5
      refine wp_ldcw dX10_tops_25 kc_RX10_281 ?_
      exact wn_iret dX10_tops_28 rfl h
  · replace h := h.2 c1
    refine wp_ldc dX10_tops_7 kc_RX10_67 ?_
    exact wn_iret dX10_tops_9 rfl h
theorem bX10_tops_56 {G : Gl} {d : Nat} {X : Sh} {M : Mm} {Q : Mm → Int32 → Prop} {a : Nat} {x2 : Int32} {b3 : Nat} {x4 : Int32} {x5 : Int32} (hS : Sh9 X a) (hS3 : Sh5 X b3) (h : ((x4 ≤ x5 → Q M x4) ∧ (¬ (x4 ≤ x5) → (∃ q2 : Mm → Int32 → Prop, Cn G m_X1_topOf d [.ref ((a + 1) + 8), .int x5] X M q2 ∧ ∀ M4 r5, q2 M4 r5 → (∃ q7 : Mm → Prop, Cv G m_X5_put d [.ref b3, .int ((x2 + x5)), .int r5] X M4 q7 ∧ ∀ M9, q7 M9 → Wn G m_X10_tops (d + 1) 56 [(0, .ref a), (2, .int x2), (3, .ref b3), (4, .int x4), (5, .int (x5 + 1))] [] X M9 Q))))) : Wn G m_X10_tops (d + 1) 56 [(0, .ref a), (2, .int x2), (3, .ref b3), (4, .int x4), (5, .int x5)] [] X M Q := by
  refine wp_iload 4 dX10_tops_56 rfl ?_
  refine wp_iload 3 dX10_tops_58 rfl ?_
  refine wp_icmp_ge (tgt := 89) dX10_tops_60 (by decide) (fun c1 => ?_) (fun c1 => ?_)
  · replace h := h.1 c1
    refine wp_iload 3 dX10_tops_89 rfl ?_
    exact wn_iret dX10_tops_91 rfl h
  · replace h := h.2 c1
    refine wp_aload_n 2 dX10_tops_63 rfl rfl ?_
    refine wp_iload_n 1 dX10_tops_64 rfl rfl ?_
    refine wp_iload 4 dX10_tops_65 rfl ?_
    refine wp_iadd dX10_tops_67 ?_
    refine wp_aload_n 0 dX10_tops_68 rfl rfl ?_
    refine wp_getR dX10_tops_69 fl_RX10_10 rfl (sh9_K hS) (sh9_F_house hS) ?_
    refine wp_getR dX10_tops_72 fl_RX10_117 rfl (sh2_K (sh9_S_house hS)) (sh2_F_furnace (sh9_S_house hS)) ?_
    refine wp_iload 4 dX10_tops_75 rfl ?_
    obtain ⟨q2, o3, h⟩ := h
    refine wp_cvi dX10_tops_77 ck_RX10_152 (sh1_K (sh2_S_furnace (sh9_S_house hS))) (as := [.int x5]) rfl rfl (Nat.le_of_ble_eq_true rfl) o3 (fun M4 r5 o6 => ?_)
    replace h := h M4 r5 o6
    obtain ⟨q7, o8, h⟩ := h
    refine wp_cvv dX10_tops_80 ck_RX10_288 (sh5_K hS3) (as := [.int ((x2 + x5)), .int r5]) rfl rfl (Nat.le_of_ble_eq_true rfl) o8 (fun M9 o10 => ?_)
    replace h := h M9 o10
    refine wp_iinc (v := x5 + 1) (lo2 := [(5, .int _), (0, .ref _), (2, .int _), (3, .ref _), (4, .int _)]) dX10_tops_83 (q := 4) rfl rfl (by decide) rfl ?_
    refine wp_goto (tgt := 56) dX10_tops_86 (by decide) ?_
    exact Wp.sub [1, 2, 3, 4, 0] rfl h
theorem bX11_tops_0 {G : Gl} {d : Nat} {X : Sh} {M : Mm} {Q : Mm → Int32 → Prop} {a : Nat} {x1 : Int32} {x2 : Int32} (hS : Sh10 X a) (hd : 1 ≤ d) (h : ((0 ≤ x1 ∧ x1 ≤ 3 → (∃ j2 : Nat, x1 = nI j2 ∧ j2 < 4 ∧ ((0 ≤ (mI M (a + 4) j2) → ((0 ≤ x2 ∧ x2 ≤ ((mI M (a + 5) j2) - 1) → (∀ v7 : Int32, v7 = (if ((mI M (a + 5) j2) - x2) ≤ 5 then ((mI M (a + 5) j2) - x2) else 5) → Wn G m_X11_tops (d + 1) 61 [(0, .ref a), (1, .int x1), (2, .int x2), (3, .int v7), (4, .int 0)] [] X M Q)) ∧ (¬ (0 ≤ x2 ∧ x2 ≤ ((mI M (a + 5) j2) - 1)) → Q M (-1000000013)))) ∧ (¬ (0 ≤ (mI M (a + 4) j2)) → Q M (-1000000011))))) ∧ (¬ (0 ≤ x1 ∧ x1 ≤ 3) → Q M (-1000000001)))) : Wn G m_X11_tops (d + 1) 0 [(0, .ref a), (1, .int x1), (2, .int x2)] [] X M Q := by
  refine wp_iload_n 1 dX11_tops_0 rfl rfl ?_
  refine wp_csip dX11_tops_1 ck_RX11_324 rfl (as := [.int x1]) rfl rfl (Nat.le_of_ble_eq_true rfl) (cp_X11_isSheet G d (by omega) X M x1) ?_
  refine wp_ifB_ne (inferInstance) (tgt := 10) dX11_tops_4 (by decide) (fun c1 => ?_) (fun c1 => ?_)
  · replace h := h.1 c1
    refine wp_aload_n 0 dX11_tops_10 rfl rfl ?_
    refine wp_getR dX11_tops_11 fl_RX11_19 rfl (sh10_K hS) (sh10_F_tSort hS) ?_
    refine wp_iload_n 1 dX11_tops_14 rfl rfl ?_
    obtain ⟨j2, o3, o4, h⟩ := h
    refine wp_iald (n := 4) dX11_tops_15 (sh10_K_tSort hS) (sh10_N_tSort hS) (by decide) o3 o4 ?_
    refine wp_if_ge (tgt := 23) dX11_tops_16 (by decide) (fun c5 => ?_) (fun c5 => ?_)
    · replace h := h.1 c5
      refine wp_iload_n 2 dX11_tops_23 rfl rfl ?_
      refine wp_i2l dX11_tops_24 ?_
      refine wp_lconst (v := 0) dX11_tops_25 rfl ?_
      refine wp_aload_n 0 dX11_tops_26 rfl rfl ?_
      refine wp_getR dX11_tops_27 fl_RX11_22 rfl (sh10_K hS) (sh10_F_tSize hS) ?_
      refine wp_iload_n 1 dX11_tops_30 rfl rfl ?_
      refine wp_iald (n := 4) dX11_tops_31 (sh10_K_tSize hS) (sh10_N_tSize hS) (by decide) o3 o4 ?_
      refine wp_iconst (v := 1) dX11_tops_32 rfl ?_
      refine wp_isub dX11_tops_33 ?_
      refine wp_i2l dX11_tops_34 ?_
      refine wp_csip dX11_tops_35 ck_RX11_78 rfl (as := [.long x2.toInt64, .long 0, .long (((mI M (a + 5) j2) - 1).toInt64)]) rfl rfl (Nat.le_of_ble_eq_true rfl) (cp_X11_isIn G d X M x2 0 ((mI M (a + 5) j2) - 1) (by decide) rfl) ?_
      refine wp_ifB_ne (inferInstance) (tgt := 45) dX11_tops_38 (by decide) (fun c6 => ?_) (fun c6 => ?_)
      · replace h := h.1 c6
        refine wp_iconst (v := 5) dX11_tops_45 rfl ?_
        refine wp_aload_n 0 dX11_tops_46 rfl rfl ?_
        refine wp_getR dX11_tops_47 fl_RX11_22 rfl (sh10_K hS) (sh10_F_tSize hS) ?_
        refine wp_iload_n 1 dX11_tops_50 rfl rfl ?_
        refine wp_iald (n := 4) dX11_tops_51 (sh10_K_tSize hS) (sh10_N_tSize hS) (by decide) o3 o4 ?_
        refine wp_iload_n 2 dX11_tops_52 rfl rfl ?_
        refine wp_isub dX11_tops_53 ?_
        refine wp_csip dX11_tops_54 ck_RX11_190 rfl (as := [.int 5, .int (((mI M (a + 5) j2) - x2))]) rfl rfl (Nat.le_of_ble_eq_true rfl) (cp_X11_least G d X M 5 ((mI M (a + 5) j2) - x2)) ?_
        refine wp_topi (fun v7 ev7 => ?_)
        replace h := h v7 ev7
        refine wp_istore_n (lo2 := [(3, .int _), (0, .ref _), (1, .int _), (2, .int _)]) dX11_tops_57 rfl (by decide) rfl ?_
        refine wp_iconst (v := 0) dX11_tops_58 rfl ?_
        refine wp_istore (lo2 := [(4, .int _), (3, .int _), (0, .ref _), (1, .int _), (2, .int _)]) dX11_tops_59 (by decide) rfl ?_
        exact Wp.sub [2, 3, 4, 1, 0] rfl h
      · replace h := h.2 c6
        refine wp_ldcw dX11_tops_41 kc_RX11_329 ?_
        exact wn_iret dX11_tops_44 rfl h
    · replace h := h.2 c5
      refine wp_ldcw dX11_tops_19 kc_RX11_328 ?_
      exact wn_iret dX11_tops_22 rfl h
  · replace h := h.2 c1
    refine wp_ldc dX11_tops_7 kc_RX11_100 ?_
    exact wn_iret dX11_tops_9 rfl h
theorem bX11_tops_61 {G : Gl} {d : Nat} {X : Sh} {M : Mm} {Q : Mm → Int32 → Prop} {a : Nat} {x1 : Int32} {x2 : Int32} {x3 : Int32} {x4 : Int32} (hS : Sh10 X a) (h : ((x3 ≤ x4 → Q M x3) ∧ (¬ (x3 ≤ x4) → (∃ q2 : Mm → Int32 → Prop, Cn G m_X11_topOf d [.ref a, .int x4] X M q2 ∧ ∀ M4 r5, q2 M4 r5 → (∃ j7 : Nat, x1 = nI j7 ∧ j7 < 4 ∧ ((¬ ((mI M4 (a + 4) j7) = 0) → (∃ j11 : Nat, (((24 * x1) + x2) + x4) = nI j11 ∧ j11 < 96 ∧ (∀ M14 : Mm, M14 = sI M4 (a + 6) j11 r5 → Wn G m_X11_tops (d + 1) 61 [(0, .ref a), (1, .int x1), (2, .int x2), (3, .int x3), (4, .int (x4 + 1))] [] X M14 Q))) ∧ ((mI M4 (a + 4) j7) = 0 → (∃ j15 : Nat, (((24 * x1) + x2) + x4) = nI j15 ∧ j15 < 96 ∧ (∀ M18 : Mm, M18 = sI M4 (a + 6) j15 ((r5 <<< (16 &&& 31)) >>> (16 &&& 31)) → Wn G m_X11_tops (d + 1) 61 [(0, .ref a), (1, .int x1), (2, .int x2), (3, .int x3), (4, .int (x4 + 1))] [] X M18 Q))))))))) : Wn G m_X11_tops (d + 1) 61 [(0, .ref a), (1, .int x1), (2, .int x2), (3, .int x3), (4, .int x4)] [] X M Q := by
  refine wp_iload 4 dX11_tops_61 rfl ?_
  refine wp_iload_n 3 dX11_tops_63 rfl rfl ?_
  refine wp_icmp_ge (tgt := 117) dX11_tops_64 (by decide) (fun c1 => ?_) (fun c1 => ?_)
  · replace h := h.1 c1
    refine wp_iload_n 3 dX11_tops_117 rfl rfl ?_
    exact wn_iret dX11_tops_118 rfl h
  · replace h := h.2 c1
    refine wp_aload_n 0 dX11_tops_67 rfl rfl ?_
    refine wp_iload 4 dX11_tops_68 rfl ?_
    obtain ⟨q2, o3, h⟩ := h
    refine wp_cvi dX11_tops_70 ck_RX11_143 (sh10_K hS) (as := [.int x4]) rfl rfl (Nat.le_of_ble_eq_true rfl) o3 (fun M4 r5 o6 => ?_)
    replace h := h M4 r5 o6
    refine wp_istore (lo2 := [(5, .int _), (0, .ref _), (1, .int _), (2, .int _), (3, .int _), (4, .int _)]) dX11_tops_73 (by decide) rfl ?_
    refine wp_aload_n 1 dX11_tops_75 rfl rfl ?_
    refine wp_getR dX11_tops_76 fl_RX11_25 rfl (sh10_K hS) (sh10_F_tNumber hS) ?_
    refine wp_bipush (v := 24) dX11_tops_79 rfl ?_
    refine wp_iload_n 2 dX11_tops_81 rfl rfl ?_
    refine wp_imul dX11_tops_82 ?_
    refine wp_iload_n 3 dX11_tops_83 rfl rfl ?_
    refine wp_iadd dX11_tops_84 ?_
    refine wp_iload 5 dX11_tops_85 rfl ?_
    refine wp_iadd dX11_tops_87 ?_
    refine wp_aload_n 1 dX11_tops_88 rfl rfl ?_
    refine wp_getR dX11_tops_89 fl_RX11_19 rfl (sh10_K hS) (sh10_F_tSort hS) ?_
    refine wp_iload_n 2 dX11_tops_92 rfl rfl ?_
    obtain ⟨j7, o8, o9, h⟩ := h
    refine wp_iald (n := 4) dX11_tops_93 (sh10_K_tSort hS) (sh10_N_tSort hS) (by decide) o8 o9 ?_
    refine wp_if_ne (tgt := 108) dX11_tops_94 (by decide) (fun c10 => ?_) (fun c10 => ?_)
    · replace h := h.1 c10
      refine wp_iload 0 dX11_tops_108 rfl ?_
      obtain ⟨j11, o12, o13, h⟩ := h
      refine wp_iast (n := 96) dX11_tops_110 (sh10_K_tNumber hS) (sh10_N_tNumber hS) (by decide) o12 o13 ?_
      refine wp_nm (fun M14 eM14 => ?_)
      replace h := h M14 eM14
      refine wp_iinc (v := x4 + 1) (lo2 := [(4, .int _), (5, .int _), (0, .ref _), (1, .int _), (2, .int _), (3, .int _)]) dX11_tops_111 (q := 5) rfl rfl (by decide) rfl ?_
      refine wp_goto (tgt := 61) dX11_tops_114 (by decide) ?_
      exact Wp.sub [2, 3, 4, 5, 0] rfl h
    · replace h := h.2 c10
      refine wp_iload 0 dX11_tops_97 rfl ?_
      refine wp_bipush (v := 16) dX11_tops_99 rfl ?_
      refine wp_ishl dX11_tops_101 ?_
      refine wp_bipush (v := 16) dX11_tops_102 rfl ?_
      refine wp_ishr dX11_tops_104 ?_
      refine wp_goto (tgt := 110) dX11_tops_105 (by decide) ?_
      obtain ⟨j15, o16, o17, h⟩ := h
      refine wp_iast (n := 96) dX11_tops_110 (sh10_K_tNumber hS) (sh10_N_tNumber hS) (by decide) o16 o17 ?_
      refine wp_nm (fun M18 eM18 => ?_)
      replace h := h M18 eM18
      refine wp_iinc (v := x4 + 1) (lo2 := [(4, .int _), (5, .int _), (0, .ref _), (1, .int _), (2, .int _), (3, .int _)]) dX11_tops_111 (q := 5) rfl rfl (by decide) rfl ?_
      refine wp_goto (tgt := 61) dX11_tops_114 (by decide) ?_
      exact Wp.sub [2, 3, 4, 5, 0] rfl h
theorem cl_X10_tops (G : Gl) (d : Nat) (hd : 1 ≤ d) {X : Sh} {b a p N nl : Nat} {σ : Nat → Int32} {la : Nat → Nat} {Q : Mm → Int32 → Prop} (hS : Sh9 X b) (hS5 : Sh5 X a) (M0 : Mm) (hF : FR M0 (b + 1 + 8) σ nl la) (hN : N ≤ 5) (hp : p + N ≤ 24) (hab : b + 59 < a) (hq : ∀ M2, mI M2 (a + 1) = updR (mI M0 (a + 1)) p N (tpv σ nl (mI M0 a 0)) → mI M2 (a + 2) = updR (mI M0 (a + 2)) p N (fun _ => 0) → (∀ c, c ≠ a + 1 → c ≠ a + 2 → mI M2 c = mI M0 c) → mR M2 = mR M0 → Q M2 (nI N)) :
    ∀ (n r : Nat) (M : Mm), r + n = N → mI M (a + 1) = updR (mI M0 (a + 1)) p r (tpv σ nl (mI M0 a 0)) → mI M (a + 2) = updR (mI M0 (a + 2)) p r (fun _ => 0) → (∀ c, c ≠ a + 1 → c ≠ a + 2 → mI M c = mI M0 c) → mR M = mR M0 → Wn G m_X10_tops (d + 1) 56 [(0, .ref b), (2, .int (nI p)), (3, .ref a), (4, .int (nI N)), (5, .int (nI r))] [] X M Q
  | 0, r, M, h, h1, h2, h3, h4 => by
    have hi : r = N := h
    subst hi
    exact bX10_tops_56 hS hS5 ⟨fun _ => hq M h1 h2 h3 h4, fun q => absurd (Int32.le_refl _) q⟩
  | n + 1, r, M, h, h1, h2, h3, h4 => by
    refine bX10_tops_56 hS hS5 ⟨fun q => ?_, fun _ => ⟨_, cp_X1_topOf G d X M (b + 1 + 8) r (sh2_S_furnace (sh9_S_house hS)) (by omega), ?_⟩⟩
    · have := (nI_leI (by omega) (by omega)).mp q
      omega
    rintro M4 r5 ⟨e, e5⟩
    have e := e.symm
    subst e
    have e5 : r5 = s_top σ nl r := by
      rw [e5, h3 _ (by omega) (by omega)]
      exact hF.top (by omega)
    rw [nI_add]
    refine ⟨_, cp_X5_put G d X M a (p + r) r5 hS5 (by omega), ?_⟩
    intro M9 e9
    unfold PutQ at e9
    rw [h3 a (by omega) (by omega)] at e9
    have ev : (if mI M0 a 0 = 0 then r5.toInt16.toInt32 else r5) = tpv σ nl (mI M0 a 0) r := by rw [e5]; rfl
    rw [ev] at e9
    rw [nI_1]
    refine cl_X10_tops G d hd hS hS5 M0 hF hN hp hab hq n (r + 1) M9 (by omega) ?_ ?_ (fun c c1 c2 => ?_) ?_
    · rw [e9, mI_sI, up2_off _ _ _ (by omega), mI_sI, up2_row, h1, updR_s]
    · rw [e9, mI_sI, up2_row, mI_sI, up2_off _ _ _ (by omega), h2]
      exact updR_s _ _ _ (fun _ => 0)
    · rw [e9, mI_sI, up2_off _ _ _ c2, mI_sI, up2_off _ _ _ c1, h3 c c1 c2]
    · rw [e9]
      exact h4
theorem cl_X11_tops (G : Gl) (d : Nat) (hd : 2 ≤ d) {X : Sh} {m i p N nl : Nat} {Q : Mm → Int32 → Prop} (hM : Sh10 X m) (M0 : Mm) (hi : i < 4) (hN : N ≤ 5) (hp : p + N ≤ 24) (hn : mI M0 (m + 1) 1 = nI nl) (hnl : nl ≤ 24) (hq : ∀ M2, mI M2 (m + 6) = updR (mI M0 (m + 6)) (24 * i + p) N (tpv (mI M0 (m + 1)) nl (mI M0 (m + 4) i)) → (∀ c, c ≠ m + 6 → mI M2 c = mI M0 c) → mR M2 = mR M0 → Q M2 (nI N)) :
    ∀ (n r : Nat) (M : Mm), r + n = N → mI M (m + 6) = updR (mI M0 (m + 6)) (24 * i + p) r (tpv (mI M0 (m + 1)) nl (mI M0 (m + 4) i)) → (∀ c, c ≠ m + 6 → mI M c = mI M0 c) → mR M = mR M0 → Wn G m_X11_tops (d + 1) 61 [(0, .ref m), (1, .int (nI i)), (2, .int (nI p)), (3, .int (nI N)), (4, .int (nI r))] [] X M Q
  | 0, r, M, h, h1, h3, h4 => by
    have hi : r = N := h
    subst hi
    exact bX11_tops_61 hM ⟨fun _ => hq M h1 h3 h4, fun q => absurd (Int32.le_refl _) q⟩
  | n + 1, r, M, h, h1, h3, h4 => by
    refine bX11_tops_61 hM ⟨fun q => ?_, fun _ => ⟨_, cp_X11_topOf G d hd X M m r nl hM (by omega) (by rw [h3 _ (by omega)]; exact hn) hnl, ?_⟩⟩
    · have := (nI_leI (by omega) (by omega)).mp q
      omega
    rintro M4 r5 ⟨e, e5⟩
    have e := e.symm
    subst e
    rw [h3 (m + 1) (by omega)] at e5
    have go : ∀ M14 v, M14 = sI M (m + 6) (24 * i + p + r) v → v = tpv (mI M0 (m + 1)) nl (mI M0 (m + 4) i) r → Wn G m_X11_tops (d + 1) 61 [(0, .ref m), (1, .int (nI i)), (2, .int (nI p)), (3, .int (nI N)), (4, .int (nI r + 1))] [] X M14 Q := fun M14 v e14 ev => by
      rw [ev] at e14
      rw [nI_1]
      refine cl_X11_tops G d hd hM M0 hi hN hp hn hnl hq n (r + 1) M14 (by omega) ?_ (fun c c1 => ?_) ?_
      · rw [e14, mI_sI, up2_row, h1, updR_s]
      · rw [e14, mI_sI, up2_off _ _ _ c1, h3 c c1]
      · rw [e14]
        exact h4
    refine ⟨i, rfl, hi, fun q => ⟨24 * i + p + r, (by first | rfl | (simp only [n_lit, nI_add, pk_mul]; done) | (simp only [n_lit, nI_add, pk_mul]; exact congrArg nI (by omega))), by omega, fun M14 e14 => ?_⟩, fun q => ⟨24 * i + p + r, (by first | rfl | (simp only [n_lit, nI_add, pk_mul]; done) | (simp only [n_lit, nI_add, pk_mul]; exact congrArg nI (by omega))), by omega, fun M18 e18 => ?_⟩⟩
    · rw [h3 (m + 4) (by omega)] at q
      refine go M14 _ e14 ?_
      unfold tpv
      rw [if_neg q, e5]
    · rw [h3 (m + 4) (by omega)] at q
      refine go M18 _ e18 ?_
      unfold tpv
      rw [if_pos q, short_eq, e5]
theorem case_tops (G : Gl) (d : Nat) (hd : 16 ≤ d) (X : Sh) (b m : Nat) (hS : Sh9 X b) (hM : Sh10 X m) (hbm : b + 266 ≤ m) (x1 x2 : Int32) : Case G d X b m m_X10_tops m_X11_tops [.int x1, .int x2] := by
  obtain ⟨d, rfl⟩ : ∃ d1, d = d1 + 1 := ⟨d - 1, by omega⟩
  intro M hs
  obtain ⟨⟨nb, nl, nx, nt, nd, la, hh⟩, hr⟩ := id hs
  obtain ⟨hW, hB, hF, hT, hD, hR⟩ := id hh
  obtain ⟨w0, w1, w2, w3, w4, w5, w6, w7, w8, w9, wb, wf, _⟩ := id hW
  by_cases h : 0 ≤ x1 ∧ x1 ≤ 3
  · obtain ⟨i, hi, rfl⟩ := ix_le (nb := 3) (by omega) h.1 h.2
    have hS5 := sh9_ES_sheets hS i (by omega)
    obtain ⟨s0, s1, ⟨n, hn, n1, n2⟩, s3⟩ := hr.2.2.2.1 i (by omega)
    by_cases hm : mI M (m + 4) i = -1
    · have ng : ¬ 0 ≤ mI M (m + 4) i := by
        rw [hm]
        decide
      exact Cn.of (by decide) (Nat.le_of_ble_eq_true rfl) (bX10_tops_0 hS (by omega) ⟨fun _ => ⟨i, rfl, by omega, fun q => absurd (s0.trans hm) q, fun _ => Cn.of (by decide) (Nat.le_of_ble_eq_true rfl) (bX11_tops_0 hM (by omega) ⟨fun _ => ⟨i, rfl, by omega, fun q => absurd q ng, fun _ => ⟨rfl, hs⟩⟩, fun q => absurd h q⟩)⟩, fun q => absurd h q⟩)
    · have c1 : ¬ mI M (b + 232 + 3 * i) 0 = -1 := fun q => hm (s0.symm.trans q)
      have pg : 0 ≤ mI M (m + 4) i := by
        rcases s1 with q | q | q
        · exact absurd q hm
        · rw [q]
          decide
        · rw [q]
          decide
      by_cases h2 : 0 ≤ x2 ∧ x2 < nI n
      · have h2' : 0 ≤ x2 ∧ x2 < mI M (b + 232 + 3 * i) 1 := by rw [n1]; exact h2
        have h2'' : 0 ≤ x2 ∧ x2 ≤ mI M (m + 5) i - 1 := by rw [n2, has_iff (by omega)]; exact h2
        obtain ⟨p, hp, rfl⟩ := ix_of (by omega) h2.1 h2.2
        obtain ⟨N, hN5, hNp, eN, eN2⟩ : ∃ N, N ≤ 5 ∧ p + N ≤ n ∧ (if nI n - nI p < 5 then nI n - nI p else 5) = nI N ∧ (if nI n - nI p ≤ 5 then nI n - nI p else 5) = nI N := by
          rw [nI_subI n p (by omega)]
          by_cases z : n - p < 5
          · exact ⟨n - p, by omega, by omega, if_pos ((nI_ltI (b := 5) (by omega) (by omega)).mpr z), if_pos ((nI_leI (b := 5) (by omega) (by omega)).mpr (by omega))⟩
          · refine ⟨5, by omega, by omega, if_neg (fun q => z ((nI_ltI (b := 5) (by omega) (by omega)).mp q)), ?_⟩
            by_cases z2 : n - p = 5
            · rw [z2]
              exact if_pos (Int32.le_refl _)
            · exact if_neg (fun q => by
                have := (nI_leI (b := 5) (by omega) (by omega)).mp q
                omega)
        refine Cn.of (by decide) (Nat.le_of_ble_eq_true rfl) (bX10_tops_0 hS (by omega) ⟨fun _ => ⟨i, rfl, by omega, fun _ => ⟨fun _ => ?_, fun q => absurd h2' q⟩, fun q => absurd q c1⟩, fun q => absurd h q⟩)
        intro v7 e7
        rw [n1, eN] at e7
        subst e7
        refine cl_X10_tops G d (by omega) hS hS5 M hF hN5 (by omega) (by omega) (fun M2 a1 a2 a3 a4 => ?_) N 0 M (by omega) (updR_0 _ _ _).symm (updR_0 _ _ _).symm (fun _ _ _ => rfl) rfl
        have m2 : ∀ c, m ≤ c → mI M2 c = mI M c := fun c hc => a3 c (by omega) (by omega)
        refine Cn.of (by decide) (Nat.le_of_ble_eq_true rfl) (bX11_tops_0 hM (by omega) ⟨fun _ => ⟨i, rfl, by omega, fun _ => ⟨fun _ => ?_, fun q => absurd (by rw [m2 _ (by omega)]; exact h2'') q⟩, fun q => absurd (by rw [m2 _ (by omega)]; exact pg) q⟩, fun q => absurd h q⟩)
        intro v9 e9
        rw [m2 _ (by omega), n2, eN2] at e9
        subst e9
        refine cl_X11_tops G d (by omega) (nl := nl) hM M2 (by omega) hN5 (by omega) (by rw [m2 _ (by omega)]; exact w2) w3 (fun M3 k6 k3 k4 => ?_) N 0 M2 (by omega) (updR_0 _ _ _).symm (fun _ _ => rfl) rfl
        rw [m2 (m + 6) (by omega), m2 (m + 1) (by omega), m2 (m + 4) (by omega)] at k6
        rw [s0] at a1
        rw [show b + 232 + 3 * i + 1 = b + 233 + 3 * i by omega] at a1 a3
        rw [show b + 232 + 3 * i + 2 = b + 234 + 3 * i by omega] at a2 a3
        have oo : ∀ c, c ≠ b + 233 + 3 * i → c ≠ b + 234 + 3 * i → c ≠ m + 6 → mI M3 c = mI M c := fun c c1 c2 c3 => by rw [k3 c c3, a3 c c1 c2]
        refine ⟨rfl, hs.sheet hbm (i := i) (by omega) (fun c _ z2 z3 _ _ z6 => oo c z2 z3 z6) (by rw [k4, a4]) (fun j _ => by rw [oo _ (by omega) (by omega) (by omega)]) (fun j _ => by rw [oo _ (by omega) (by omega) (by omega)]) (fun j hj => by rw [k6, updR_out (by omega)]) ⟨?_, ?_, ⟨n, hn, ?_, ?_⟩, fun j hj => ?_⟩⟩
        · rw [oo _ (by omega) (by omega) (by omega), oo _ (by omega) (by omega) (by omega), s0]
        · rw [oo _ (by omega) (by omega) (by omega)]
          exact s1
        · rw [oo _ (by omega) (by omega) (by omega), n1]
        · rw [oo _ (by omega) (by omega) (by omega), n2]
        · rw [k3 (b + 233 + 3 * i) (by omega), k3 (b + 234 + 3 * i) (by omega), a1, a2, k6]
          by_cases z : p ≤ j ∧ j < p + N
          · rw [updR_in z, updR_in z, updR_in (by omega), show 24 * i + j - (24 * i + p) = j - p by omega]
            exact Or.inr ⟨tpv_ne (by omega) w3 wf, rfl, rfl⟩
          · rw [updR_out z, updR_out z, updR_out (by omega)]
            exact s3 j hj
      · have h2' : ¬ (0 ≤ x2 ∧ x2 < mI M (b + 232 + 3 * i) 1) := by rw [n1]; exact h2
        have h2'' : ¬ (0 ≤ x2 ∧ x2 ≤ mI M (m + 5) i - 1) := by rw [n2, has_iff (by omega)]; exact h2
        exact Cn.of (by decide) (Nat.le_of_ble_eq_true rfl) (bX10_tops_0 hS (by omega) ⟨fun _ => ⟨i, rfl, by omega, fun _ => ⟨fun q => absurd q h2', fun _ => Cn.of (by decide) (Nat.le_of_ble_eq_true rfl) (bX11_tops_0 hM (by omega) ⟨fun _ => ⟨i, rfl, by omega, fun _ => ⟨fun q => absurd q h2'', fun _ => ⟨rfl, hs⟩⟩, fun q => absurd pg q⟩, fun q => absurd h q⟩)⟩, fun q => absurd q c1⟩, fun q => absurd h q⟩)
  · exact Cn.of (by decide) (Nat.le_of_ble_eq_true rfl) (bX10_tops_0 hS (by omega) ⟨fun q => absurd q h, fun _ => Cn.of (by decide) (Nat.le_of_ble_eq_true rfl) (bX11_tops_0 hM (by omega) ⟨fun q => absurd q h, fun _ => ⟨rfl, hs⟩⟩)⟩)
