/-! calls that only tell, more of them -/
theorem bX7_isOf_0 {G : Gl} {d : Nat} {X : Sh} {M : Mm} {Q : Mm → Int32 → Prop} {x0 : Int32} {x1 : Int32}  (h : Wn G m_X7_isOf d 4 [(1, .int x1), (2, .int x0), (3, .int 0)] [] X M Q) : Wn G m_X7_isOf d 0 [(0, .int x0), (1, .int x1)] [] X M Q := by
  refine wp_iload_n 0 dX7_isOf_0 rfl rfl ?_
  refine wp_istore_n (lo2 := [(2, .int _), (0, .int _), (1, .int _)]) dX7_isOf_1 rfl (by decide) rfl ?_
  refine wp_iconst (v := 0) dX7_isOf_2 rfl ?_
  refine wp_istore_n (lo2 := [(3, .int _), (2, .int _), (0, .int _), (1, .int _)]) dX7_isOf_3 rfl (by decide) rfl ?_
  exact Wp.sub [3, 1, 0] rfl h
theorem bX7_isOf_4 {G : Gl} {d : Nat} {X : Sh} {M : Mm} {Q : Mm → Int32 → Prop} {x1 : Int32} {x2 : Int32} {x3 : Int32}  (h : ((6 ≤ x3 → Q M 0) ∧ (¬ (6 ≤ x3) → ((x2 < 0 → Q M 0) ∧ (¬ (x2 < 0) → ((6 ≤ x2 → Q M 0) ∧ (¬ (6 ≤ x2) → ((¬ (x2 = x1) → (∃ j5 : Nat, x2 = nI j5 ∧ j5 < 6 ∧ (∀ v8 : Int32, v8 = (aboveV j5) → Wn G m_X7_isOf d 4 [(1, .int x1), (2, .int v8), (3, .int (x3 + 1))] [] X M Q))) ∧ (x2 = x1 → Q M 1))))))))) : Wn G m_X7_isOf d 4 [(1, .int x1), (2, .int x2), (3, .int x3)] [] X M Q := by
  refine wp_iload_n 2 dX7_isOf_4 rfl rfl ?_
  refine wp_bipush (v := 6) dX7_isOf_5 rfl ?_
  refine wp_icmp_ge (tgt := 39) dX7_isOf_7 (by decide) (fun c1 => ?_) (fun c1 => ?_)
  · replace h := h.1 c1
    refine wp_iconst (v := 0) dX7_isOf_39 rfl ?_
    exact wn_zret dX7_isOf_40 rfl (Or.inl rfl) h
  · replace h := h.2 c1
    refine wp_iload_n 1 dX7_isOf_10 rfl rfl ?_
    refine wp_if_lt (tgt := 39) dX7_isOf_11 (by decide) (fun c2 => ?_) (fun c2 => ?_)
    · replace h := h.1 c2
      refine wp_iconst (v := 0) dX7_isOf_39 rfl ?_
      exact wn_zret dX7_isOf_40 rfl (Or.inl rfl) h
    · replace h := h.2 c2
      refine wp_iload_n 1 dX7_isOf_14 rfl rfl ?_
      refine wp_bipush (v := 6) dX7_isOf_15 rfl ?_
      refine wp_icmp_ge (tgt := 39) dX7_isOf_17 (by decide) (fun c3 => ?_) (fun c3 => ?_)
      · replace h := h.1 c3
        refine wp_iconst (v := 0) dX7_isOf_39 rfl ?_
        exact wn_zret dX7_isOf_40 rfl (Or.inl rfl) h
      · replace h := h.2 c3
        refine wp_iload_n 1 dX7_isOf_20 rfl rfl ?_
        refine wp_iload_n 0 dX7_isOf_21 rfl rfl ?_
        refine wp_icmp_ne (tgt := 27) dX7_isOf_22 (by decide) (fun c4 => ?_) (fun c4 => ?_)
        · replace h := h.1 c4
          refine wp_above dX7_isOf_27 fs_RX7_9 ?_
          refine wp_iload_n 1 dX7_isOf_30 rfl rfl ?_
          obtain ⟨j5, o6, o7, h⟩ := h
          refine wp_aboveAt dX7_isOf_31 o6 o7 ?_
          refine wp_topi (fun v8 ev8 => ?_)
          replace h := h v8 ev8
          refine wp_istore_n (lo2 := [(2, .int _), (1, .int _), (3, .int _)]) dX7_isOf_32 rfl (by decide) rfl ?_
          refine wp_iinc (v := x3 + 1) (lo2 := [(3, .int _), (2, .int _), (1, .int _)]) dX7_isOf_33 (q := 2) rfl rfl (by decide) rfl ?_
          refine wp_goto (tgt := 4) dX7_isOf_36 (by decide) ?_
          exact Wp.sub [2, 1, 0] rfl h
        · replace h := h.2 c4
          refine wp_iconst (v := 1) dX7_isOf_25 rfl ?_
          exact wn_zret dX7_isOf_26 rfl (Or.inr rfl) h
def c_isOf (o : Int32) : Nat → Int32 → Int32
  | 0, _ => 0
  | n + 1, k => if k < 0 then 0 else if 6 ≤ k then 0 else if k = o then 1 else c_isOf o n (aboveV k.toNatClampNeg)
theorem cl_X7_isOf (G : Gl) (d : Nat) {X : Sh} {M : Mm} {o : Int32} {Q : Mm → Int32 → Prop} : ∀ (n i : Nat) (k : Int32), i + n = 6 → Q M (c_isOf o n k) → Wn G m_X7_isOf d 4 [(1, .int o), (2, .int k), (3, .int (nI i))] [] X M Q
  | 0, i, k, h, hq => by
    have hi : i = 6 := h
    subst hi
    exact bX7_isOf_4 ⟨fun _ => hq, fun h => absurd (by decide) h⟩
  | n + 1, i, k, h, hq => by
    have hi : ¬ (6 : Int32) ≤ nI i := fun q => by
      have := (nI_leI (a := 6) (by omega) (by omega)).mp q
      omega
    have e : c_isOf o (n + 1) k = if k < 0 then 0 else if 6 ≤ k then 0 else if k = o then 1 else c_isOf o n (aboveV k.toNatClampNeg) := rfl
    rw [e] at hq
    refine bX7_isOf_4 ⟨fun h => absurd h hi, fun _ => ⟨fun h => ?_, fun h => ⟨fun h2 => ?_, fun h2 => ⟨fun h3 => ?_, fun h3 => ?_⟩⟩⟩⟩
    · rw [if_pos h] at hq
      exact hq
    · rw [if_neg h, if_pos h2] at hq
      exact hq
    · rw [if_neg h, if_neg h2, if_neg h3] at hq
      obtain ⟨j, hj, rfl⟩ := ix_of (x := k) (nb := 6) (by omega) (i_nlt.mp h) (i_nle.mp h2)
      refine ⟨j, rfl, hj, ?_⟩
      rintro v8 rfl
      rw [nI_clamp (by omega)] at hq
      rw [nI_1]
      exact cl_X7_isOf G d n (i + 1) _ (by omega) hq
    · rw [if_neg h, if_neg h2, if_pos h3] at hq
      exact hq
theorem c_isOf_eq : ∀ k : Fin 6, ∀ o : Fin 6, c_isOf (nI o.val) 6 (nI k.val) = if p_isOf (nI k.val) (nI o.val) then 1 else 0 := by decide
theorem cp_X7_isOf (G : Gl) (d : Nat) (X : Sh) (M : Mm) (k o : Nat) (hk : k ≤ 5) (ho : o ≤ 5) : Cn G m_X7_isOf d [.int (nI k), .int (nI o)] X M (fun M2 x => M2 = M ∧ x = if p_isOf (nI k) (nI o) then 1 else 0) := by
  refine Cn.of (by decide) (Nat.le_of_ble_eq_true rfl) (bX7_isOf_0 (cl_X7_isOf G d 6 0 (nI k) rfl ⟨rfl, ?_⟩))
  exact c_isOf_eq ⟨k, by omega⟩ ⟨o, by omega⟩
theorem bX10_as_0 {G : Gl} {d : Nat} {X : Sh} {M : Mm} {Q : Mm → Int32 → Prop} {a : Nat} {x1 : Int32} {x2 : Int32} (hS : Sh9 X a) (hd : 1 ≤ d) (h : ((¬ (0 ≤ x1 ∧ x1 < mI M ((a + 1) + 1) 5) → Q M (-1000000001)) ∧ (0 ≤ x1 ∧ x1 < mI M ((a + 1) + 1) 5 → ((0 ≤ x2 ∧ x2 ≤ 5 → (∃ j3 : Nat, x1 = nI j3 ∧ j3 < 6 ∧ (∃ q6 : Mm → Int32 → Prop, Cn G m_X7_isOf d [.int ((mI M (((a + 1) + 1) + 1) j3)), .int x2] X M q6 ∧ ∀ M8 r9, q6 M8 r9 → ((r9 = 0 → Q M8 (-1000000012)) ∧ (¬ (r9 = 0) → Q M8 (mI M8 (((a + 1) + 1) + 4) j3)))))) ∧ (¬ (0 ≤ x2 ∧ x2 ≤ 5) → Q M (-1000000001)))))) : Wn G m_X10_as (d + 1) 0 [(0, .ref a), (1, .int x1), (2, .int x2)] [] X M Q := by
  refine wp_aload_n 0 dX10_as_0 rfl rfl ?_
  refine wp_getR dX10_as_1 fl_RX10_10 rfl (sh9_K hS) (sh9_F_house hS) ?_
  refine wp_getR dX10_as_4 fl_RX10_68 rfl (sh2_K (sh9_S_house hS)) (sh2_F_bins (sh9_S_house hS)) ?_
  refine wp_iload_n 1 dX10_as_7 rfl rfl ?_
  refine wp_cvip dX10_as_8 ck_RX10_78 (sh0_K (sh2_S_bins (sh9_S_house hS))) (as := [.int x1]) rfl rfl (Nat.le_of_ble_eq_true rfl) (cp_X0_has G d X M ((a + 1) + 1) x1 (sh2_S_bins (sh9_S_house hS))) ?_
  refine wp_ifB_eq (inferInstance) (tgt := 21) dX10_as_11 (by decide) (fun c1 => ?_) (fun c1 => ?_)
  · replace h := h.1 c1
    refine wp_ldc dX10_as_21 kc_RX10_67 ?_
    exact wn_iret dX10_as_23 rfl h
  · replace h := h.2 c1
    refine wp_iload_n 2 dX10_as_14 rfl rfl ?_
    refine wp_csip dX10_as_15 ck_RX10_59 rfl (as := [.int x2]) rfl rfl (Nat.le_of_ble_eq_true rfl) (cp_X10_isKind G d (by omega) X M x2) ?_
    refine wp_ifB_ne (inferInstance) (tgt := 24) dX10_as_18 (by decide) (fun c2 => ?_) (fun c2 => ?_)
    · replace h := h.1 c2
      refine wp_aload_n 0 dX10_as_24 rfl rfl ?_
      refine wp_getR dX10_as_25 fl_RX10_10 rfl (sh9_K hS) (sh9_F_house hS) ?_
      refine wp_getR dX10_as_28 fl_RX10_68 rfl (sh2_K (sh9_S_house hS)) (sh2_F_bins (sh9_S_house hS)) ?_
      refine wp_getR dX10_as_31 fl_RX10_81 rfl (sh0_K (sh2_S_bins (sh9_S_house hS))) (sh0_F_kind (sh2_S_bins (sh9_S_house hS))) ?_
      refine wp_iload_n 1 dX10_as_34 rfl rfl ?_
      obtain ⟨j3, o4, o5, h⟩ := h
      refine wp_iald (n := 6) dX10_as_35 (sh0_K_kind (sh2_S_bins (sh9_S_house hS))) (sh0_N_kind (sh2_S_bins (sh9_S_house hS))) (by decide) o4 o5 ?_
      refine wp_iload_n 2 dX10_as_36 rfl rfl ?_
      obtain ⟨q6, o7, h⟩ := h
      refine wp_csi dX10_as_37 ck_RX10_106 rfl (as := [.int ((mI M (((a + 1) + 1) + 1) j3)), .int x2]) rfl rfl (Nat.le_of_ble_eq_true rfl) o7 (fun M8 r9 o10 => ?_)
      replace h := h M8 r9 o10
      refine wp_if_eq (tgt := 58) dX10_as_40 (by decide) (fun c11 => ?_) (fun c11 => ?_)
      · replace h := h.1 c11
        refine wp_ldc dX10_as_58 kc_RX10_110 ?_
        exact wn_iret dX10_as_60 rfl h
      · replace h := h.2 c11
        refine wp_aload_n 0 dX10_as_43 rfl rfl ?_
        refine wp_getR dX10_as_44 fl_RX10_10 rfl (sh9_K hS) (sh9_F_house hS) ?_
        refine wp_getR dX10_as_47 fl_RX10_68 rfl (sh2_K (sh9_S_house hS)) (sh2_F_bins (sh9_S_house hS)) ?_
        refine wp_getR dX10_as_50 fl_RX10_90 rfl (sh0_K (sh2_S_bins (sh9_S_house hS))) (sh0_F_tons (sh2_S_bins (sh9_S_house hS))) ?_
        refine wp_iload_n 1 dX10_as_53 rfl rfl ?_
        refine wp_iald (n := 6) dX10_as_54 (sh0_K_tons (sh2_S_bins (sh9_S_house hS))) (sh0_N_tons (sh2_S_bins (sh9_S_house hS))) (by decide) o4 o5 ?_
        refine wp_goto (tgt := 60) dX10_as_55 (by decide) ?_
        exact wn_iret dX10_as_60 rfl h
    · replace h := h.2 c2
      refine wp_ldc dX10_as_21 kc_RX10_67 ?_
      exact wn_iret dX10_as_23 rfl h
theorem bX11_as_0 {G : Gl} {d : Nat} {X : Sh} {M : Mm} {Q : Mm → Int32 → Prop} {a : Nat} {x1 : Int32} {x2 : Int32} (hS : Sh10 X a) (hd : 1 ≤ d) (h : ((¬ (0 ≤ x1 ∧ x1 ≤ mI M (a + 1) 0 - 1) → Q M (-1000000001)) ∧ (0 ≤ x1 ∧ x1 ≤ mI M (a + 1) 0 - 1 → ((0 ≤ x2 ∧ x2 ≤ 5 → (∃ j3 : Nat, (20 + 5 * x1) = nI j3 ∧ j3 < 2950 ∧ ((¬ (p_isOf (mI M (a + 1) j3) x2) → Q M (-1000000012)) ∧ (p_isOf (mI M (a + 1) j3) x2 → (∃ j7 : Nat, ((20 + 5 * x1) + 3) = nI j7 ∧ j7 < 2950 ∧ Q M (mI M (a + 1) j7)))))) ∧ (¬ (0 ≤ x2 ∧ x2 ≤ 5) → Q M (-1000000001)))))) : Wn G m_X11_as (d + 1) 0 [(0, .ref a), (1, .int x1), (2, .int x2)] [] X M Q := by
  refine wp_aload_n 0 dX11_as_0 rfl rfl ?_
  refine wp_iload_n 1 dX11_as_1 rfl rfl ?_
  refine wp_cvip dX11_as_2 ck_RX11_102 (sh10_K hS) (as := [.int x1]) rfl rfl (Nat.le_of_ble_eq_true rfl) (cp_X11_isBin G d (by omega) X M a x1 hS) ?_
  refine wp_ifB_eq (inferInstance) (tgt := 20) dX11_as_5 (by decide) (fun c1 => ?_) (fun c1 => ?_)
  · replace h := h.1 c1
    refine wp_ldc dX11_as_20 kc_RX11_100 ?_
    exact wn_iret dX11_as_22 rfl h
  · replace h := h.2 c1
    refine wp_iload_n 2 dX11_as_8 rfl rfl ?_
    refine wp_i2l dX11_as_9 ?_
    refine wp_lconst (v := 0) dX11_as_10 rfl ?_
    refine wp_ldc2 dX11_as_11 kc_RX11_96 ?_
    refine wp_csip dX11_as_14 ck_RX11_78 rfl (as := [.long x2.toInt64, .long 0, .long 5]) rfl rfl (Nat.le_of_ble_eq_true rfl) (cp_X11_isIn G d X M x2 0 5 (by decide) (by decide)) ?_
    refine wp_ifB_ne (inferInstance) (tgt := 23) dX11_as_17 (by decide) (fun c2 => ?_) (fun c2 => ?_)
    · replace h := h.1 c2
      refine wp_aload_n 0 dX11_as_23 rfl rfl ?_
      refine wp_getR dX11_as_24 fl_RX11_7 rfl (sh10_K hS) (sh10_F_s hS) ?_
      refine wp_aload_n 0 dX11_as_27 rfl rfl ?_
      refine wp_iload_n 1 dX11_as_28 rfl rfl ?_
      refine wp_cvip dX11_as_29 ck_RX11_86 (sh10_K hS) (as := [.int x1]) rfl rfl (Nat.le_of_ble_eq_true rfl) (cp_X11_binAt G d X M a x1 hS) ?_
      obtain ⟨j3, o4, o5, h⟩ := h
      refine wp_iald (n := 2950) dX11_as_32 (sh10_K_s hS) (sh10_N_s hS) (by decide) o4 o5 ?_
      refine wp_iload_n 2 dX11_as_33 rfl rfl ?_
      refine wp_csip dX11_as_34 ck_RX11_120 rfl (as := [.int ((mI M (a + 1) j3)), .int x2]) rfl rfl (Nat.le_of_ble_eq_true rfl) (cp_X11_isOf G d X M (mI M (a + 1) j3) x2) ?_
      refine wp_ifB_eq (inferInstance) (tgt := 55) dX11_as_37 (by decide) (fun c6 => ?_) (fun c6 => ?_)
      · replace h := h.1 c6
        refine wp_ldc dX11_as_55 kc_RX11_124 ?_
        exact wn_iret dX11_as_57 rfl h
      · replace h := h.2 c6
        refine wp_aload_n 0 dX11_as_40 rfl rfl ?_
        refine wp_getR dX11_as_41 fl_RX11_7 rfl (sh10_K hS) (sh10_F_s hS) ?_
        refine wp_aload_n 0 dX11_as_44 rfl rfl ?_
        refine wp_iload_n 1 dX11_as_45 rfl rfl ?_
        refine wp_cvip dX11_as_46 ck_RX11_86 (sh10_K hS) (as := [.int x1]) rfl rfl (Nat.le_of_ble_eq_true rfl) (cp_X11_binAt G d X M a x1 hS) ?_
        refine wp_iconst (v := 3) dX11_as_49 rfl ?_
        refine wp_iadd dX11_as_50 ?_
        obtain ⟨j7, o8, o9, h⟩ := h
        refine wp_iald (n := 2950) dX11_as_51 (sh10_K_s hS) (sh10_N_s hS) (by decide) o8 o9 ?_
        refine wp_goto (tgt := 57) dX11_as_52 (by decide) ?_
        exact wn_iret dX11_as_57 rfl h
    · replace h := h.2 c2
      refine wp_ldc dX11_as_20 kc_RX11_100 ?_
      exact wn_iret dX11_as_22 rfl h
theorem case_as (G : Gl) (d : Nat) (hd : 8 ≤ d) (X : Sh) (b m : Nat) (hS : Sh9 X b) (hM : Sh10 X m) (x1 x2 : Int32) : Case G d X b m m_X10_as m_X11_as [.int x1, .int x2] := by
  obtain ⟨d, rfl⟩ : ∃ d1, d = d1 + 1 := ⟨d - 1, by omega⟩
  refine Case.pure (fun M nb nl nx nt nd la hh hr => ?_)
  obtain ⟨⟨w0, w1, _, _, _, _, _, _, _, _, wb, _⟩, hB, hF, hT, hD, hR⟩ := hh
  by_cases h : 0 ≤ x1 ∧ x1 < nI nb
  · have h' : 0 ≤ x1 ∧ x1 < mI M (b + 1 + 1) 5 := by rw [hB.1]; exact h
    have h'' : 0 ≤ x1 ∧ x1 ≤ mI M (m + 1) 0 - 1 := by rw [w0, has_iff (by omega)]; exact h
    by_cases h2 : 0 ≤ x2 ∧ x2 ≤ 5
    · obtain ⟨i, hi, rfl⟩ := ix_of (by omega) h.1 h.2
      obtain ⟨o, ho, rfl⟩ := ix_le (nb := 5) (by omega) h2.1 h2.2
      obtain ⟨b0, b1, b2, b3, b4⟩ := hB.2.2.1 i hi
      obtain ⟨k, sh, v, s, hk, hsh, hv1, hv, hs, e0, e1, e3, e4⟩ := wb i hi
      by_cases h3 : p_isOf (nI k) (nI o)
      · refine ⟨mI M (m + 1) (23 + 5 * i), Cn.of (by decide) (Nat.le_of_ble_eq_true rfl) (bX10_as_0 hS (by omega) ⟨fun q => absurd h' q, fun _ => ⟨fun _ => ⟨i, rfl, by omega, _, by rw [b0, e0]; exact cp_X7_isOf G d X M k o hk ho, ?_⟩, fun q => absurd h2 q⟩⟩), Cn.of (by decide) (Nat.le_of_ble_eq_true rfl) (bX11_as_0 hM (by omega) ⟨fun q => absurd h'' q, fun _ => ⟨fun _ => ⟨20 + 5 * i, (by first | rfl | (simp only [n_lit, nI_add, pk_mul]; done) | (simp only [n_lit, nI_add, pk_mul]; exact congrArg nI (by omega))), by omega, fun q => absurd (by rw [e0]; exact h3) q, fun _ => ⟨23 + 5 * i, (by first | rfl | (simp only [n_lit, nI_add, pk_mul]; done) | (simp only [n_lit, nI_add, pk_mul]; exact congrArg nI (by omega))), by omega, rfl, rfl⟩⟩, fun q => absurd h2 q⟩⟩)⟩
        rintro M8 r9 ⟨e, e9⟩
        have e := e.symm
        subst e
        rw [if_pos h3] at e9
        exact ⟨fun q => absurd (q.symm.trans e9) (by decide), fun _ => ⟨rfl, b3⟩⟩
      · refine ⟨-1000000012, Cn.of (by decide) (Nat.le_of_ble_eq_true rfl) (bX10_as_0 hS (by omega) ⟨fun q => absurd h' q, fun _ => ⟨fun _ => ⟨i, rfl, by omega, _, by rw [b0, e0]; exact cp_X7_isOf G d X M k o hk ho, ?_⟩, fun q => absurd h2 q⟩⟩), Cn.of (by decide) (Nat.le_of_ble_eq_true rfl) (bX11_as_0 hM (by omega) ⟨fun q => absurd h'' q, fun _ => ⟨fun _ => ⟨20 + 5 * i, (by first | rfl | (simp only [n_lit, nI_add, pk_mul]; done) | (simp only [n_lit, nI_add, pk_mul]; exact congrArg nI (by omega))), by omega, fun _ => ⟨rfl, rfl⟩, fun q => absurd (by rw [e0] at q; exact q) h3⟩, fun q => absurd h2 q⟩⟩)⟩
        rintro M8 r9 ⟨e, e9⟩
        have e := e.symm
        subst e
        rw [if_neg h3] at e9
        exact ⟨fun _ => ⟨rfl, rfl⟩, fun q => absurd e9 q⟩
    · exact ⟨-1000000001, Cn.of (by decide) (Nat.le_of_ble_eq_true rfl) (bX10_as_0 hS (by omega) ⟨fun q => absurd h' q, fun _ => ⟨fun q => absurd q h2, fun _ => ⟨rfl, rfl⟩⟩⟩), Cn.of (by decide) (Nat.le_of_ble_eq_true rfl) (bX11_as_0 hM (by omega) ⟨fun q => absurd h'' q, fun _ => ⟨fun q => absurd q h2, fun _ => ⟨rfl, rfl⟩⟩⟩)⟩
  · have h' : ¬ (0 ≤ x1 ∧ x1 < mI M (b + 1 + 1) 5) := by rw [hB.1]; exact h
    have h'' : ¬ (0 ≤ x1 ∧ x1 ≤ mI M (m + 1) 0 - 1) := by rw [w0, has_iff (by omega)]; exact h
    exact ⟨-1000000001, Cn.of (by decide) (Nat.le_of_ble_eq_true rfl) (bX10_as_0 hS (by omega) ⟨fun _ => ⟨rfl, rfl⟩, fun q => absurd q h'⟩), Cn.of (by decide) (Nat.le_of_ble_eq_true rfl) (bX11_as_0 hM (by omega) ⟨fun _ => ⟨rfl, rfl⟩, fun q => absurd q h''⟩)⟩
theorem bX10_of_0 {G : Gl} {d : Nat} {X : Sh} {M : Mm} {Q : Mm → Int32 → Prop} {a : Nat} {x1 : Int32} {x2 : Int32} {x3 : Int32} (hS : Sh9 X a) (hd : 2 ≤ d) (h : ((¬ (0 ≤ x1 ∧ x1 < mI M ((a + 1) + 1) 5) → Q M (-1000000001)) ∧ (0 ≤ x1 ∧ x1 < mI M ((a + 1) + 1) 5 → ((¬ (0 ≤ x2 ∧ x2 ≤ 999) → Q M (-1000000001)) ∧ (0 ≤ x2 ∧ x2 ≤ 999 → ((0 ≤ x3 ∧ x3 ≤ 3 → (∃ j4 : Nat, x1 = nI j4 ∧ j4 < 6 ∧ Q M (f_amount (mI M (((a + 1) + 1) + 1) j4) (mI M (((a + 1) + 1) + 2) j4) x2 x3))) ∧ (¬ (0 ≤ x3 ∧ x3 ≤ 3) → Q M (-1000000001)))))))) : Wn G m_X10_of (d + 1) 0 [(0, .ref a), (1, .int x1), (2, .int x2), (3, .int x3)] [] X M Q := by
  refine wp_aload_n 0 dX10_of_0 rfl rfl ?_
  refine wp_getR dX10_of_1 fl_RX10_10 rfl (sh9_K hS) (sh9_F_house hS) ?_
  refine wp_getR dX10_of_4 fl_RX10_68 rfl (sh2_K (sh9_S_house hS)) (sh2_F_bins (sh9_S_house hS)) ?_
  refine wp_iload_n 1 dX10_of_7 rfl rfl ?_
  refine wp_cvip dX10_of_8 ck_RX10_78 (sh0_K (sh2_S_bins (sh9_S_house hS))) (as := [.int x1]) rfl rfl (Nat.le_of_ble_eq_true rfl) (cp_X0_has G d X M ((a + 1) + 1) x1 (sh2_S_bins (sh9_S_house hS))) ?_
  refine wp_ifB_eq (inferInstance) (tgt := 34) dX10_of_11 (by decide) (fun c1 => ?_) (fun c1 => ?_)
  · replace h := h.1 c1
    refine wp_ldc dX10_of_34 kc_RX10_67 ?_
    exact wn_iret dX10_of_36 rfl h
  · replace h := h.2 c1
    refine wp_iload_n 2 dX10_of_14 rfl rfl ?_
    refine wp_iconst (v := 0) dX10_of_15 rfl ?_
    refine wp_sipush (v := 999) dX10_of_16 rfl ?_
    refine wp_csip dX10_of_19 ck_RX10_63 rfl (as := [.int x2, .int 0, .int 999]) rfl rfl (Nat.le_of_ble_eq_true rfl) (cp_X10_isWithin G d X M x2 0 999) ?_
    refine wp_ifB_eq (inferInstance) (tgt := 34) dX10_of_22 (by decide) (fun c2 => ?_) (fun c2 => ?_)
    · replace h := h.1 c2
      refine wp_ldc dX10_of_34 kc_RX10_67 ?_
      exact wn_iret dX10_of_36 rfl h
    · replace h := h.2 c2
      refine wp_iload_n 3 dX10_of_25 rfl rfl ?_
      refine wp_iconst (v := 0) dX10_of_26 rfl ?_
      refine wp_iconst (v := 3) dX10_of_27 rfl ?_
      refine wp_csip dX10_of_28 ck_RX10_63 rfl (as := [.int x3, .int 0, .int 3]) rfl rfl (Nat.le_of_ble_eq_true rfl) (cp_X10_isWithin G d X M x3 0 3) ?_
      refine wp_ifB_ne (inferInstance) (tgt := 37) dX10_of_31 (by decide) (fun c3 => ?_) (fun c3 => ?_)
      · replace h := h.1 c3
        refine wp_aload_n 0 dX10_of_37 rfl rfl ?_
        refine wp_getR dX10_of_38 fl_RX10_10 rfl (sh9_K hS) (sh9_F_house hS) ?_
        refine wp_getR dX10_of_41 fl_RX10_68 rfl (sh2_K (sh9_S_house hS)) (sh2_F_bins (sh9_S_house hS)) ?_
        refine wp_getR dX10_of_44 fl_RX10_81 rfl (sh0_K (sh2_S_bins (sh9_S_house hS))) (sh0_F_kind (sh2_S_bins (sh9_S_house hS))) ?_
        refine wp_iload_n 1 dX10_of_47 rfl rfl ?_
        obtain ⟨j4, o5, o6, h⟩ := h
        refine wp_iald (n := 6) dX10_of_48 (sh0_K_kind (sh2_S_bins (sh9_S_house hS))) (sh0_N_kind (sh2_S_bins (sh9_S_house hS))) (by decide) o5 o6 ?_
        refine wp_aload_n 0 dX10_of_49 rfl rfl ?_
        refine wp_getR dX10_of_50 fl_RX10_10 rfl (sh9_K hS) (sh9_F_house hS) ?_
        refine wp_getR dX10_of_53 fl_RX10_68 rfl (sh2_K (sh9_S_house hS)) (sh2_F_bins (sh9_S_house hS)) ?_
        refine wp_getR dX10_of_56 fl_RX10_84 rfl (sh0_K (sh2_S_bins (sh9_S_house hS))) (sh0_F_share (sh2_S_bins (sh9_S_house hS))) ?_
        refine wp_iload_n 1 dX10_of_59 rfl rfl ?_
        refine wp_iald (n := 6) dX10_of_60 (sh0_K_share (sh2_S_bins (sh9_S_house hS))) (sh0_N_share (sh2_S_bins (sh9_S_house hS))) (by decide) o5 o6 ?_
        refine wp_iload_n 2 dX10_of_61 rfl rfl ?_
        refine wp_iload_n 3 dX10_of_62 rfl rfl ?_
        refine wp_csip dX10_of_63 ck_RX10_102 rfl (as := [.int ((mI M (((a + 1) + 1) + 1) j4)), .int ((mI M (((a + 1) + 1) + 2) j4)), .int x2, .int x3]) rfl rfl (Nat.le_of_ble_eq_true rfl) (cp_X7_amountOf G d (by omega) X M (mI M (((a + 1) + 1) + 1) j4) (mI M (((a + 1) + 1) + 2) j4) x2 x3) ?_
        exact wn_iret dX10_of_66 rfl h
      · replace h := h.2 c3
        refine wp_ldc dX10_of_34 kc_RX10_67 ?_
        exact wn_iret dX10_of_36 rfl h
theorem bX11_of_0 {G : Gl} {d : Nat} {X : Sh} {M : Mm} {Q : Mm → Int32 → Prop} {a : Nat} {x1 : Int32} {x2 : Int32} {x3 : Int32} (hS : Sh10 X a) (hd : 1 ≤ d) (h : ((¬ (0 ≤ x1 ∧ x1 ≤ mI M (a + 1) 0 - 1) → Q M (-1000000001)) ∧ (0 ≤ x1 ∧ x1 ≤ mI M (a + 1) 0 - 1 → ((¬ (0 ≤ x2 ∧ x2 ≤ 999) → Q M (-1000000001)) ∧ (0 ≤ x2 ∧ x2 ≤ 999 → ((0 ≤ x3 ∧ x3 ≤ 3 → ((¬ (x3 = 0) → (∃ q5 : Mm → Int32 → Prop, Cn G m_X11_brings d [.ref a, .int x1, .int x2, .int x3] X M q5 ∧ ∀ M7 r8, q5 M7 r8 → Q M7 r8)) ∧ (x3 = 0 → (∃ j10 : Nat, (20 + 5 * x1) = nI j10 ∧ j10 < 2950 ∧ Q M (f_bulk (mI M (a + 1) j10) x2))))) ∧ (¬ (0 ≤ x3 ∧ x3 ≤ 3) → Q M (-1000000001)))))))) : Wn G m_X11_of (d + 1) 0 [(0, .ref a), (1, .int x1), (2, .int x2), (3, .int x3)] [] X M Q := by
  refine wp_aload_n 0 dX11_of_0 rfl rfl ?_
  refine wp_iload_n 1 dX11_of_1 rfl rfl ?_
  refine wp_cvip dX11_of_2 ck_RX11_102 (sh10_K hS) (as := [.int x1]) rfl rfl (Nat.le_of_ble_eq_true rfl) (cp_X11_isBin G d (by omega) X M a x1 hS) ?_
  refine wp_ifB_eq (inferInstance) (tgt := 32) dX11_of_5 (by decide) (fun c1 => ?_) (fun c1 => ?_)
  · replace h := h.1 c1
    refine wp_ldc dX11_of_32 kc_RX11_100 ?_
    exact wn_iret dX11_of_34 rfl h
  · replace h := h.2 c1
    refine wp_iload_n 2 dX11_of_8 rfl rfl ?_
    refine wp_i2l dX11_of_9 ?_
    refine wp_lconst (v := 0) dX11_of_10 rfl ?_
    refine wp_ldc2 dX11_of_11 kc_RX11_109 ?_
    refine wp_csip dX11_of_14 ck_RX11_78 rfl (as := [.long x2.toInt64, .long 0, .long 999]) rfl rfl (Nat.le_of_ble_eq_true rfl) (cp_X11_isIn G d X M x2 0 999 (by decide) (by decide)) ?_
    refine wp_ifB_eq (inferInstance) (tgt := 32) dX11_of_17 (by decide) (fun c2 => ?_) (fun c2 => ?_)
    · replace h := h.1 c2
      refine wp_ldc dX11_of_32 kc_RX11_100 ?_
      exact wn_iret dX11_of_34 rfl h
    · replace h := h.2 c2
      refine wp_iload_n 3 dX11_of_20 rfl rfl ?_
      refine wp_i2l dX11_of_21 ?_
      refine wp_lconst (v := 0) dX11_of_22 rfl ?_
      refine wp_ldc2 dX11_of_23 kc_RX11_111 ?_
      refine wp_csip dX11_of_26 ck_RX11_78 rfl (as := [.long x3.toInt64, .long 0, .long 3]) rfl rfl (Nat.le_of_ble_eq_true rfl) (cp_X11_isIn G d X M x3 0 3 (by decide) (by decide)) ?_
      refine wp_ifB_ne (inferInstance) (tgt := 35) dX11_of_29 (by decide) (fun c3 => ?_) (fun c3 => ?_)
      · replace h := h.1 c3
        refine wp_iload_n 3 dX11_of_35 rfl rfl ?_
        refine wp_if_ne (tgt := 56) dX11_of_36 (by decide) (fun c4 => ?_) (fun c4 => ?_)
        · replace h := h.1 c4
          refine wp_aload_n 0 dX11_of_56 rfl rfl ?_
          refine wp_iload_n 1 dX11_of_57 rfl rfl ?_
          refine wp_iload_n 2 dX11_of_58 rfl rfl ?_
          refine wp_iload_n 3 dX11_of_59 rfl rfl ?_
          obtain ⟨q5, o6, h⟩ := h
          refine wp_cvi dX11_of_60 ck_RX11_117 (sh10_K hS) (as := [.int x1, .int x2, .int x3]) rfl rfl (Nat.le_of_ble_eq_true rfl) o6 (fun M7 r8 o9 => ?_)
          replace h := h M7 r8 o9
          exact wn_iret dX11_of_63 rfl h
        · replace h := h.2 c4
          refine wp_aload_n 0 dX11_of_39 rfl rfl ?_
          refine wp_getR dX11_of_40 fl_RX11_7 rfl (sh10_K hS) (sh10_F_s hS) ?_
          refine wp_aload_n 0 dX11_of_43 rfl rfl ?_
          refine wp_iload_n 1 dX11_of_44 rfl rfl ?_
          refine wp_cvip dX11_of_45 ck_RX11_86 (sh10_K hS) (as := [.int x1]) rfl rfl (Nat.le_of_ble_eq_true rfl) (cp_X11_binAt G d X M a x1 hS) ?_
          obtain ⟨j10, o11, o12, h⟩ := h
          refine wp_iald (n := 2950) dX11_of_48 (sh10_K_s hS) (sh10_N_s hS) (by decide) o11 o12 ?_
          refine wp_iload_n 2 dX11_of_49 rfl rfl ?_
          refine wp_csip dX11_of_50 ck_RX11_113 rfl (as := [.int ((mI M (a + 1) j10)), .int x2]) rfl rfl (Nat.le_of_ble_eq_true rfl) (cp_X11_bulkOf G d X M (mI M (a + 1) j10) x2) ?_
          refine wp_goto (tgt := 63) dX11_of_53 (by decide) ?_
          exact wn_iret dX11_of_63 rfl h
      · replace h := h.2 c3
        refine wp_ldc dX11_of_32 kc_RX11_100 ?_
        exact wn_iret dX11_of_34 rfl h
theorem case_of (G : Gl) (d : Nat) (hd : 8 ≤ d) (X : Sh) (b m : Nat) (hS : Sh9 X b) (hM : Sh10 X m) (x1 x2 x3 : Int32) : Case G d X b m m_X10_of m_X11_of [.int x1, .int x2, .int x3] := by
  obtain ⟨d, rfl⟩ : ∃ d1, d = d1 + 1 := ⟨d - 1, by omega⟩
  refine Case.pure (fun M nb nl nx nt nd la hh hr => ?_)
  obtain ⟨⟨w0, w1, _, _, _, _, _, _, _, _, wb, _⟩, hB, hF, hT, hD, hR⟩ := hh
  by_cases h : 0 ≤ x1 ∧ x1 < nI nb
  · have h' : 0 ≤ x1 ∧ x1 < mI M (b + 1 + 1) 5 := by rw [hB.1]; exact h
    have h'' : 0 ≤ x1 ∧ x1 ≤ mI M (m + 1) 0 - 1 := by rw [w0, has_iff (by omega)]; exact h
    by_cases h2 : 0 ≤ x2 ∧ x2 ≤ 999
    · by_cases h3 : 0 ≤ x3 ∧ x3 ≤ 3
      · obtain ⟨i, hi, rfl⟩ := ix_of (by omega) h.1 h.2
        obtain ⟨t, ht, rfl⟩ := ix_le (nb := 999) (by omega) h2.1 h2.2
        obtain ⟨o, ho, rfl⟩ := ix_le (nb := 3) (by omega) h3.1 h3.2
        obtain ⟨b0, b1, b2, b3, b4⟩ := hB.2.2.1 i hi
        obtain ⟨k, sh, v, s, hk, hsh, hv1, hv, hs, e0, e1, e3, e4⟩ := wb i hi
        refine ⟨f_amount (nI k) (nI sh) (nI t) (nI o), Cn.of (by decide) (Nat.le_of_ble_eq_true rfl) (bX10_of_0 hS (by omega) ⟨fun q => absurd h' q, fun _ => ⟨fun q => absurd h2 q, fun _ => ⟨fun _ => ⟨i, rfl, by omega, rfl, by rw [b0, b1, e0, e1]⟩, fun q => absurd h3 q⟩⟩⟩), Cn.of (by decide) (Nat.le_of_ble_eq_true rfl) (bX11_of_0 hM (by omega) ⟨fun q => absurd h'' q, fun _ => ⟨fun q => absurd h2 q, fun _ => ⟨fun _ => ⟨fun h4 => ⟨_, cp_X11_brings G d (by omega) X M m i (nI t) (nI o) hM (by omega), ?_⟩, fun h4 => ⟨20 + 5 * i, (by first | rfl | (simp only [n_lit, nI_add, pk_mul]; done) | (simp only [n_lit, nI_add, pk_mul]; exact congrArg nI (by omega))), by omega, rfl, ?_⟩⟩, fun q => absurd h3 q⟩⟩⟩)⟩
        · rintro M7 r8 ⟨e, e8⟩
          have e := e.symm
          subst e
          refine ⟨rfl, ?_⟩
          rw [e8, e0, e1]
          match o, ho with
          | 0, _ => exact absurd rfl h4
          | 1, _ => exact (fg_iron hk hsh (by omega)).symm
          | 2, _ => exact (fg_acid hk hsh (by omega)).symm
          | 3, _ => rfl
        · rw [e0]
          exact (if_pos h4).symm
      · exact ⟨-1000000001, Cn.of (by decide) (Nat.le_of_ble_eq_true rfl) (bX10_of_0 hS (by omega) ⟨fun q => absurd h' q, fun _ => ⟨fun q => absurd h2 q, fun _ => ⟨fun q => absurd q h3, fun _ => ⟨rfl, rfl⟩⟩⟩⟩), Cn.of (by decide) (Nat.le_of_ble_eq_true rfl) (bX11_of_0 hM (by omega) ⟨fun q => absurd h'' q, fun _ => ⟨fun q => absurd h2 q, fun _ => ⟨fun q => absurd q h3, fun _ => ⟨rfl, rfl⟩⟩⟩⟩)⟩
    · exact ⟨-1000000001, Cn.of (by decide) (Nat.le_of_ble_eq_true rfl) (bX10_of_0 hS (by omega) ⟨fun q => absurd h' q, fun _ => ⟨fun _ => ⟨rfl, rfl⟩, fun q => absurd q h2⟩⟩), Cn.of (by decide) (Nat.le_of_ble_eq_true rfl) (bX11_of_0 hM (by omega) ⟨fun q => absurd h'' q, fun _ => ⟨fun _ => ⟨rfl, rfl⟩, fun q => absurd q h2⟩⟩)⟩
  · have h' : ¬ (0 ≤ x1 ∧ x1 < mI M (b + 1 + 1) 5) := by rw [hB.1]; exact h
    have h'' : ¬ (0 ≤ x1 ∧ x1 ≤ mI M (m + 1) 0 - 1) := by rw [w0, has_iff (by omega)]; exact h
    exact ⟨-1000000001, Cn.of (by decide) (Nat.le_of_ble_eq_true rfl) (bX10_of_0 hS (by omega) ⟨fun _ => ⟨rfl, rfl⟩, fun q => absurd q h'⟩), Cn.of (by decide) (Nat.le_of_ble_eq_true rfl) (bX11_of_0 hM (by omega) ⟨fun _ => ⟨rfl, rfl⟩, fun q => absurd q h''⟩)⟩
theorem bX10_backAt_0 {G : Gl} {d : Nat} {X : Sh} {M : Mm} {Q : Mm → Int32 → Prop} {a : Nat} {x1 : Int32} (hS : Sh9 X a) (h : ((0 ≤ x1 ∧ x1 < mI M ((a + 1) + 82) 2 → (∃ j2 : Nat, x1 = nI j2 ∧ j2 < 6 ∧ Q M (if 99999 < (mI M (((a + 1) + 82) + 2) j2) then 99999 else (mI M (((a + 1) + 82) + 2) j2)))) ∧ (¬ (0 ≤ x1 ∧ x1 < mI M ((a + 1) + 82) 2) → Q M (-1000000001)))) : Wn G m_X10_backAt (d + 1) 0 [(0, .ref a), (1, .int x1)] [] X M Q := by
  refine wp_aload_n 0 dX10_backAt_0 rfl rfl ?_
  refine wp_getR dX10_backAt_1 fl_RX10_10 rfl (sh9_K hS) (sh9_F_house hS) ?_
  refine wp_getR dX10_backAt_4 fl_RX10_250 rfl (sh2_K (sh9_S_house hS)) (sh2_F_ladles (sh9_S_house hS)) ?_
  refine wp_iload_n 1 dX10_backAt_7 rfl rfl ?_
  refine wp_cvip dX10_backAt_8 ck_RX10_258 (sh3_K (sh2_S_ladles (sh9_S_house hS))) (as := [.int x1]) rfl rfl (Nat.le_of_ble_eq_true rfl) (cp_X3_has G d X M ((a + 1) + 82) x1 (sh2_S_ladles (sh9_S_house hS))) ?_
  refine wp_ifB_ne (inferInstance) (tgt := 17) dX10_backAt_11 (by decide) (fun c1 => ?_) (fun c1 => ?_)
  · replace h := h.1 c1
    refine wp_aload_n 0 dX10_backAt_17 rfl rfl ?_
    refine wp_getR dX10_backAt_18 fl_RX10_10 rfl (sh9_K hS) (sh9_F_house hS) ?_
    refine wp_getR dX10_backAt_21 fl_RX10_250 rfl (sh2_K (sh9_S_house hS)) (sh2_F_ladles (sh9_S_house hS)) ?_
    refine wp_getR dX10_backAt_24 fl_RX10_259 rfl (sh3_K (sh2_S_ladles (sh9_S_house hS))) (sh3_F_ready (sh2_S_ladles (sh9_S_house hS))) ?_
    refine wp_iload_n 1 dX10_backAt_27 rfl rfl ?_
    obtain ⟨j2, o3, o4, h⟩ := h
    refine wp_iald (n := 6) dX10_backAt_28 (sh3_K_ready (sh2_S_ladles (sh9_S_house hS))) (sh3_N_ready (sh2_S_ladles (sh9_S_house hS))) (by decide) o3 o4 ?_
    refine wp_ldc dX10_backAt_29 kc_RX10_112 ?_
    refine wp_mmin dX10_backAt_31 ml_RX10_262 ms_min mi_Math mc_min (Nat.le_of_ble_eq_true rfl) (Nat.le_refl _) (Nat.le_refl _) ?_
    exact wn_iret dX10_backAt_34 rfl h
  · replace h := h.2 c1
    refine wp_ldc dX10_backAt_14 kc_RX10_67 ?_
    exact wn_iret dX10_backAt_16 rfl h
theorem bX11_backAt_0 {G : Gl} {d : Nat} {X : Sh} {M : Mm} {Q : Mm → Int32 → Prop} {a : Nat} {x1 : Int32} (hS : Sh10 X a) (h : ((¬ (0 ≤ x1 ∧ x1 ≤ ((mI M (a + 1) 4) - 1)) → Q M (-1000000001)) ∧ (0 ≤ x1 ∧ x1 ≤ ((mI M (a + 1) 4) - 1) → (∃ j2 : Nat, ((320 + 2 * x1) + 1) = nI j2 ∧ j2 < 2950 ∧ Q M (if (mI M (a + 1) j2) ≤ 99999 then (mI M (a + 1) j2) else 99999))))) : Wn G m_X11_backAt (d + 1) 0 [(0, .ref a), (1, .int x1)] [] X M Q := by
  refine wp_iload_n 1 dX11_backAt_0 rfl rfl ?_
  refine wp_i2l dX11_backAt_1 ?_
  refine wp_lconst (v := 0) dX11_backAt_2 rfl ?_
  refine wp_aload_n 0 dX11_backAt_3 rfl rfl ?_
  refine wp_getR dX11_backAt_4 fl_RX11_7 rfl (sh10_K hS) (sh10_F_s hS) ?_
  refine wp_iconst (v := 4) dX11_backAt_7 rfl ?_
  refine wp_iald (n := 2950) dX11_backAt_8 (sh10_K_s hS) (sh10_N_s hS) (by decide) rfl (by decide) ?_
  refine wp_iconst (v := 1) dX11_backAt_9 rfl ?_
  refine wp_isub dX11_backAt_10 ?_
  refine wp_i2l dX11_backAt_11 ?_
  refine wp_csip dX11_backAt_12 ck_RX11_78 rfl (as := [.long x1.toInt64, .long 0, .long (((mI M (a + 1) 4) - 1).toInt64)]) rfl rfl (Nat.le_of_ble_eq_true rfl) (cp_X11_isIn G d X M x1 0 ((mI M (a + 1) 4) - 1) (by decide) rfl) ?_
  refine wp_ifB_eq (inferInstance) (tgt := 39) dX11_backAt_15 (by decide) (fun c1 => ?_) (fun c1 => ?_)
  · replace h := h.1 c1
    refine wp_ldc dX11_backAt_39 kc_RX11_100 ?_
    exact wn_iret dX11_backAt_41 rfl h
  · replace h := h.2 c1
    refine wp_ldcw dX11_backAt_18 kc_RX11_323 ?_
    refine wp_aload_n 0 dX11_backAt_21 rfl rfl ?_
    refine wp_getR dX11_backAt_22 fl_RX11_7 rfl (sh10_K hS) (sh10_F_s hS) ?_
    refine wp_aload_n 0 dX11_backAt_25 rfl rfl ?_
    refine wp_iload_n 1 dX11_backAt_26 rfl rfl ?_
    refine wp_cvip dX11_backAt_27 ck_RX11_320 (sh10_K hS) (as := [.int x1]) rfl rfl (Nat.le_of_ble_eq_true rfl) (cp_X11_ladleAt G d X M a x1 hS) ?_
    refine wp_iconst (v := 1) dX11_backAt_30 rfl ?_
    refine wp_iadd dX11_backAt_31 ?_
    obtain ⟨j2, o3, o4, h⟩ := h
    refine wp_iald (n := 2950) dX11_backAt_32 (sh10_K_s hS) (sh10_N_s hS) (by decide) o3 o4 ?_
    refine wp_csip dX11_backAt_33 ck_RX11_190 rfl (as := [.int 99999, .int ((mI M (a + 1) j2))]) rfl rfl (Nat.le_of_ble_eq_true rfl) (cp_X11_least G d X M 99999 (mI M (a + 1) j2)) ?_
    refine wp_goto (tgt := 41) dX11_backAt_36 (by decide) ?_
    exact wn_iret dX11_backAt_41 rfl h
theorem case_backAt (G : Gl) (d : Nat) (hd : 8 ≤ d) (X : Sh) (b m : Nat) (hS : Sh9 X b) (hM : Sh10 X m) (x1 : Int32) : Case G d X b m m_X10_backAt m_X11_backAt [.int x1] := by
  obtain ⟨d, rfl⟩ : ∃ d1, d = d1 + 1 := ⟨d - 1, by omega⟩
  refine Case.pure (fun M nb nl nx nt nd la hh hr => ?_)
  obtain ⟨⟨w0, w1, w2, w3, w4, w5, w6, w7, w8, w9, _⟩, hB, hF, hT, hD, hR⟩ := hh
  by_cases h : 0 ≤ x1 ∧ x1 < nI nd
  · have h' : 0 ≤ x1 ∧ x1 < mI M (b + 1 + 82) 2 := by rw [hD.1]; exact h
    have h'' : 0 ≤ x1 ∧ x1 ≤ mI M (m + 1) 4 - 1 := by rw [w8, has_iff (by omega)]; exact h
    obtain ⟨i, hi, rfl⟩ := ix_of (by omega) h.1 h.2
    refine ⟨if 99999 < mI M (m + 1) (321 + 2 * i) then 99999 else mI M (m + 1) (321 + 2 * i), Cn.of (by decide) (Nat.le_of_ble_eq_true rfl) (bX10_backAt_0 hS ⟨fun _ => ⟨i, rfl, by omega, rfl, by rw [(hD.2 i hi).2]⟩, fun q => absurd h' q⟩), Cn.of (by decide) (Nat.le_of_ble_eq_true rfl) (bX11_backAt_0 hM ⟨fun q => absurd h'' q, fun _ => ⟨321 + 2 * i, (by first | rfl | (simp only [n_lit, nI_add, pk_mul]; done) | (simp only [n_lit, nI_add, pk_mul]; exact congrArg nI (by omega))), by omega, rfl, ?_⟩⟩)⟩
    by_cases q : mI M (m + 1) (321 + 2 * i) ≤ 99999
    · rw [if_pos q, if_neg (i_nlt.mpr q)]
    · rw [if_neg q, if_pos (i_nle.mp q)]
  · have h' : ¬ (0 ≤ x1 ∧ x1 < mI M (b + 1 + 82) 2) := by rw [hD.1]; exact h
    have h'' : ¬ (0 ≤ x1 ∧ x1 ≤ mI M (m + 1) 4 - 1) := by rw [w8, has_iff (by omega)]; exact h
    exact ⟨-1000000001, Cn.of (by decide) (Nat.le_of_ble_eq_true rfl) (bX10_backAt_0 hS ⟨fun q => absurd q h', fun _ => ⟨rfl, rfl⟩⟩), Cn.of (by decide) (Nat.le_of_ble_eq_true rfl) (bX11_backAt_0 hM ⟨fun _ => ⟨rfl, rfl⟩, fun q => absurd q h''⟩)⟩
theorem bX10_rest_0 {G : Gl} {d : Nat} {X : Sh} {M : Mm} {Q : Mm → Int32 → Prop} {a : Nat} {x1 : Int32} {x2 : Int32} (hS : Sh9 X a) (hd : 1 ≤ d) (h : ((0 ≤ x1 ∧ x1 ≤ 4 → (∃ j2 : Nat, x1 = nI j2 ∧ j2 < 5 ∧ ((¬ ((mI M (a + 245 + 4 * j2) 0) = 0) → (((mI M (a + 245 + 4 * j2) 0) = 3 → ((¬ (x2 = 0) → (¬ (x2 = 0) ∧ Q M ((mI M (a + 245 + 4 * j2) 3) - (mI M (a + 245 + 4 * j2) 3) / x2 * x2))) ∧ (x2 = 0 → Q M (-1000000002)))) ∧ (¬ ((mI M (a + 245 + 4 * j2) 0) = 3) → Q M (-1000000012)))) ∧ ((mI M (a + 245 + 4 * j2) 0) = 0 → Q M (-1000000011))))) ∧ (¬ (0 ≤ x1 ∧ x1 ≤ 4) → Q M (-1000000001)))) : Wn G m_X10_rest (d + 1) 0 [(0, .ref a), (1, .int x1), (2, .int x2)] [] X M Q := by
  refine wp_iload_n 1 dX10_rest_0 rfl rfl ?_
  refine wp_csip dX10_rest_1 ck_RX10_314 rfl (as := [.int x1]) rfl rfl (Nat.le_of_ble_eq_true rfl) (cp_X10_isSlot G d (by omega) X M x1) ?_
  refine wp_ifB_ne (inferInstance) (tgt := 10) dX10_rest_4 (by decide) (fun c1 => ?_) (fun c1 => ?_)
  · replace h := h.1 c1
    refine wp_aload_n 0 dX10_rest_10 rfl rfl ?_
    refine wp_getR dX10_rest_11 fl_RX10_46 rfl (sh9_K hS) (sh9_F_slots hS) ?_
    refine wp_iload_n 1 dX10_rest_14 rfl rfl ?_
    obtain ⟨j2, o3, o4, h⟩ := h
    refine wp_fald (n := 5) dX10_rest_15 (Or.inr <| Or.inl (sh9_K_slots hS)) (sh9_N_slots hS) (by decide) o3 o4 (sh9_E_slots hS j2 o4) ?_
    refine wp_astore_n (lo2 := [(3, .ref _), (0, .ref _), (1, .int _), (2, .int _)]) dX10_rest_16 rfl (by decide) rfl ?_
    refine wp_aload_n 0 dX10_rest_17 rfl rfl ?_
    refine wp_getI dX10_rest_18 fl_RX10_317 rfl (sh6_K (sh9_ES_slots hS j2 o4)) ?_
    refine wp_if_ne (tgt := 28) dX10_rest_21 (by decide) (fun c5 => ?_) (fun c5 => ?_)
    · replace h := h.1 c5
      refine wp_aload_n 0 dX10_rest_28 rfl rfl ?_
      refine wp_getI dX10_rest_29 fl_RX10_317 rfl (sh6_K (sh9_ES_slots hS j2 o4)) ?_
      refine wp_iconst (v := 3) dX10_rest_32 rfl ?_
      refine wp_icmp_eq (tgt := 39) dX10_rest_33 (by decide) (fun c6 => ?_) (fun c6 => ?_)
      · replace h := h.1 c6
        refine wp_iload_n 3 dX10_rest_39 rfl rfl ?_
        refine wp_if_ne (tgt := 46) dX10_rest_40 (by decide) (fun c7 => ?_) (fun c7 => ?_)
        · replace h := h.1 c7
          refine wp_aload_n 0 dX10_rest_46 rfl rfl ?_
          refine wp_getI dX10_rest_47 fl_RX10_331 rfl (sh6_K (sh9_ES_slots hS j2 o4)) ?_
          refine wp_iload_n 3 dX10_rest_50 rfl rfl ?_
          obtain ⟨o8, h⟩ := h
          refine wp_irem dX10_rest_51 o8 ?_
          exact wn_iret dX10_rest_52 rfl h
        · replace h := h.2 c7
          refine wp_ldc dX10_rest_43 kc_RX10_116 ?_
          exact wn_iret dX10_rest_45 rfl h
      · replace h := h.2 c6
        refine wp_ldc dX10_rest_36 kc_RX10_110 ?_
        exact wn_iret dX10_rest_38 rfl h
    · replace h := h.2 c5
      refine wp_ldcw dX10_rest_24 kc_RX10_281 ?_
      exact wn_iret dX10_rest_27 rfl h
  · replace h := h.2 c1
    refine wp_ldc dX10_rest_7 kc_RX10_67 ?_
    exact wn_iret dX10_rest_9 rfl h
theorem bX11_rest_0 {G : Gl} {d : Nat} {X : Sh} {M : Mm} {Q : Mm → Int32 → Prop} {a : Nat} {x1 : Int32} {x2 : Int32} (hS : Sh10 X a) (hd : 1 ≤ d) (h : ((0 ≤ x1 ∧ x1 ≤ 4 → (∃ j2 : Nat, x1 = nI j2 ∧ j2 < 5 ∧ (((mI M (a + 7) j2) = 3 → ((¬ (x2 = 0) → (¬ (x2 = 0) ∧ Q M ((mI M (a + 8) j2) - (mI M (a + 8) j2) / x2 * x2))) ∧ (x2 = 0 → Q M (-1000000002)))) ∧ (¬ ((mI M (a + 7) j2) = 3) → ((¬ ((mI M (a + 7) j2) = 0) → Q M (-1000000012)) ∧ ((mI M (a + 7) j2) = 0 → Q M (-1000000011))))))) ∧ (¬ (0 ≤ x1 ∧ x1 ≤ 4) → Q M (-1000000001)))) : Wn G m_X11_rest (d + 1) 0 [(0, .ref a), (1, .int x1), (2, .int x2)] [] X M Q := by
  refine wp_iload_n 1 dX11_rest_0 rfl rfl ?_
  refine wp_csip dX11_rest_1 ck_RX11_332 rfl (as := [.int x1]) rfl rfl (Nat.le_of_ble_eq_true rfl) (cp_X11_isSlot G d (by omega) X M x1) ?_
  refine wp_ifB_ne (inferInstance) (tgt := 10) dX11_rest_4 (by decide) (fun c1 => ?_) (fun c1 => ?_)
  · replace h := h.1 c1
    refine wp_aload_n 0 dX11_rest_10 rfl rfl ?_
    refine wp_getR dX11_rest_11 fl_RX11_28 rfl (sh10_K hS) (sh10_F_held hS) ?_
    refine wp_iload_n 1 dX11_rest_14 rfl rfl ?_
    obtain ⟨j2, o3, o4, h⟩ := h
    refine wp_iald (n := 5) dX11_rest_15 (sh10_K_held hS) (sh10_N_held hS) (by decide) o3 o4 ?_
    refine wp_iconst (v := 3) dX11_rest_16 rfl ?_
    refine wp_icmp_eq (tgt := 38) dX11_rest_17 (by decide) (fun c5 => ?_) (fun c5 => ?_)
    · replace h := h.1 c5
      refine wp_iload_n 2 dX11_rest_38 rfl rfl ?_
      refine wp_if_ne (tgt := 47) dX11_rest_39 (by decide) (fun c6 => ?_) (fun c6 => ?_)
      · replace h := h.1 c6
        refine wp_aload_n 0 dX11_rest_47 rfl rfl ?_
        refine wp_getR dX11_rest_48 fl_RX11_31 rfl (sh10_K hS) (sh10_F_heldNumber hS) ?_
        refine wp_iload_n 1 dX11_rest_51 rfl rfl ?_
        refine wp_iald (n := 5) dX11_rest_52 (sh10_K_heldNumber hS) (sh10_N_heldNumber hS) (by decide) o3 o4 ?_
        refine wp_iload_n 2 dX11_rest_53 rfl rfl ?_
        obtain ⟨o7, h⟩ := h
        refine wp_irem dX11_rest_54 o7 ?_
        exact wn_iret dX11_rest_55 rfl h
      · replace h := h.2 c6
        refine wp_ldc dX11_rest_42 kc_RX11_153 ?_
        refine wp_goto (tgt := 55) dX11_rest_44 (by decide) ?_
        exact wn_iret dX11_rest_55 rfl h
    · replace h := h.2 c5
      refine wp_aload_n 0 dX11_rest_20 rfl rfl ?_
      refine wp_getR dX11_rest_21 fl_RX11_28 rfl (sh10_K hS) (sh10_F_held hS) ?_
      refine wp_iload_n 1 dX11_rest_24 rfl rfl ?_
      refine wp_iald (n := 5) dX11_rest_25 (sh10_K_held hS) (sh10_N_held hS) (by decide) o3 o4 ?_
      refine wp_if_ne (tgt := 35) dX11_rest_26 (by decide) (fun c8 => ?_) (fun c8 => ?_)
      · replace h := h.1 c8
        refine wp_ldc dX11_rest_35 kc_RX11_124 ?_
        exact wn_iret dX11_rest_37 rfl h
      · replace h := h.2 c8
        refine wp_ldcw dX11_rest_29 kc_RX11_328 ?_
        refine wp_goto (tgt := 37) dX11_rest_32 (by decide) ?_
        exact wn_iret dX11_rest_37 rfl h
  · replace h := h.2 c1
    refine wp_ldc dX11_rest_7 kc_RX11_100 ?_
    exact wn_iret dX11_rest_9 rfl h
theorem case_rest (G : Gl) (d : Nat) (hd : 8 ≤ d) (X : Sh) (b m : Nat) (hS : Sh9 X b) (hM : Sh10 X m) (x1 x2 : Int32) : Case G d X b m m_X10_rest m_X11_rest [.int x1, .int x2] := by
  obtain ⟨d, rfl⟩ : ∃ d1, d = d1 + 1 := ⟨d - 1, by omega⟩
  refine Case.pure (fun M nb nl nx nt nd la hh hr => ?_)
  obtain ⟨_, _, _, _, hl, _⟩ := hr
  by_cases h : 0 ≤ x1 ∧ x1 ≤ 4
  · obtain ⟨i, hi, rfl⟩ := ix_le (nb := 4) (by omega) h.1 h.2
    obtain ⟨s0, ⟨v, hv, s1⟩, s2, s3, s4⟩ := hl i (by omega)
    by_cases h3 : mI M (m + 7) i = 3
    · by_cases hx : x2 = 0
      · refine ⟨-1000000002, Cn.of (by decide) (Nat.le_of_ble_eq_true rfl) (bX10_rest_0 hS (by omega) ⟨fun _ => ⟨i, rfl, by omega, fun _ => ⟨fun _ => ⟨fun q => absurd hx q, fun _ => ⟨rfl, rfl⟩⟩, fun q => absurd (by rw [s0]; exact h3) q⟩, fun q => ?_⟩, fun q => absurd h q⟩), Cn.of (by decide) (Nat.le_of_ble_eq_true rfl) (bX11_rest_0 hM (by omega) ⟨fun _ => ⟨i, rfl, by omega, fun _ => ⟨fun q => absurd hx q, fun _ => ⟨rfl, rfl⟩⟩, fun q => absurd h3 q⟩, fun q => absurd h q⟩)⟩
        rw [s0, h3] at q
        exact absurd q (by decide)
      · refine ⟨mI M (m + 8) i - mI M (m + 8) i / x2 * x2, Cn.of (by decide) (Nat.le_of_ble_eq_true rfl) (bX10_rest_0 hS (by omega) ⟨fun _ => ⟨i, rfl, by omega, fun _ => ⟨fun _ => ⟨fun _ => ⟨hx, rfl, by rw [s3 h3]⟩, fun q => absurd q hx⟩, fun q => absurd (by rw [s0]; exact h3) q⟩, fun q => ?_⟩, fun q => absurd h q⟩), Cn.of (by decide) (Nat.le_of_ble_eq_true rfl) (bX11_rest_0 hM (by omega) ⟨fun _ => ⟨i, rfl, by omega, fun _ => ⟨fun _ => ⟨hx, rfl, rfl⟩, fun q => absurd q hx⟩, fun q => absurd h3 q⟩, fun q => absurd h q⟩)⟩
        rw [s0, h3] at q
        exact absurd q (by decide)
    · by_cases h0 : mI M (m + 7) i = 0
      · exact ⟨-1000000011, Cn.of (by decide) (Nat.le_of_ble_eq_true rfl) (bX10_rest_0 hS (by omega) ⟨fun _ => ⟨i, rfl, by omega, fun q => absurd (s0.trans h0) q, fun _ => ⟨rfl, rfl⟩⟩, fun q => absurd h q⟩), Cn.of (by decide) (Nat.le_of_ble_eq_true rfl) (bX11_rest_0 hM (by omega) ⟨fun _ => ⟨i, rfl, by omega, fun q => absurd q h3, fun _ => ⟨fun q => absurd h0 q, fun _ => ⟨rfl, rfl⟩⟩⟩, fun q => absurd h q⟩)⟩
      · exact ⟨-1000000012, Cn.of (by decide) (Nat.le_of_ble_eq_true rfl) (bX10_rest_0 hS (by omega) ⟨fun _ => ⟨i, rfl, by omega, fun _ => ⟨fun q => absurd (s0.symm.trans q) h3, fun _ => ⟨rfl, rfl⟩⟩, fun q => absurd (s0.symm.trans q) h0⟩, fun q => absurd h q⟩), Cn.of (by decide) (Nat.le_of_ble_eq_true rfl) (bX11_rest_0 hM (by omega) ⟨fun _ => ⟨i, rfl, by omega, fun q => absurd q h3, fun _ => ⟨fun _ => ⟨rfl, rfl⟩, fun q => absurd q h0⟩⟩, fun q => absurd h q⟩)⟩
  · exact ⟨-1000000001, Cn.of (by decide) (Nat.le_of_ble_eq_true rfl) (bX10_rest_0 hS (by omega) ⟨fun q => absurd q h, fun _ => ⟨rfl, rfl⟩⟩), Cn.of (by decide) (Nat.le_of_ble_eq_true rfl) (bX11_rest_0 hM (by omega) ⟨fun q => absurd q h, fun _ => ⟨rfl, rfl⟩⟩)⟩
theorem bX10_item_0 {G : Gl} {d : Nat} {X : Sh} {M : Mm} {Q : Mm → Int32 → Prop} {a : Nat} {x1 : Int32} {x2 : Int32} (hS : Sh9 X a) (hd : 1 ≤ d) (h : ((0 ≤ x1 ∧ x1 ≤ 4 → (∃ j2 : Nat, x1 = nI j2 ∧ j2 < 5 ∧ ((¬ ((mI M (a + 245 + 4 * j2) 0) = 0) → (((mI M (a + 245 + 4 * j2) 0) = 2 → ((0 ≤ x2 ∧ x2 < mI M ((a + 245 + 4 * j2) + 1) 1 → (∃ j8 : Nat, x2 = nI j8 ∧ j8 < 24 ∧ (((mI M (((a + 245 + 4 * j2) + 1) + 2) j8 &&& 1) = 0 → Q M (mI M (((a + 245 + 4 * j2) + 1) + 1) j8)) ∧ (¬ ((mI M (((a + 245 + 4 * j2) + 1) + 2) j8 &&& 1) = 0) → Q M (-1000000012))))) ∧ (¬ (0 ≤ x2 ∧ x2 < mI M ((a + 245 + 4 * j2) + 1) 1) → Q M (-1000000013)))) ∧ (¬ ((mI M (a + 245 + 4 * j2) 0) = 2) → Q M (-1000000012)))) ∧ ((mI M (a + 245 + 4 * j2) 0) = 0 → Q M (-1000000011))))) ∧ (¬ (0 ≤ x1 ∧ x1 ≤ 4) → Q M (-1000000001)))) : Wn G m_X10_item (d + 1) 0 [(0, .ref a), (1, .int x1), (2, .int x2)] [] X M Q := by
  refine wp_iload_n 1 dX10_item_0 rfl rfl ?_
  refine wp_csip dX10_item_1 ck_RX10_314 rfl (as := [.int x1]) rfl rfl (Nat.le_of_ble_eq_true rfl) (cp_X10_isSlot G d (by omega) X M x1) ?_
  refine wp_ifB_ne (inferInstance) (tgt := 10) dX10_item_4 (by decide) (fun c1 => ?_) (fun c1 => ?_)
  · replace h := h.1 c1
    refine wp_aload_n 0 dX10_item_10 rfl rfl ?_
    refine wp_getR dX10_item_11 fl_RX10_46 rfl (sh9_K hS) (sh9_F_slots hS) ?_
    refine wp_iload_n 1 dX10_item_14 rfl rfl ?_
    obtain ⟨j2, o3, o4, h⟩ := h
    refine wp_fald (n := 5) dX10_item_15 (Or.inr <| Or.inl (sh9_K_slots hS)) (sh9_N_slots hS) (by decide) o3 o4 (sh9_E_slots hS j2 o4) ?_
    refine wp_astore_n (lo2 := [(3, .ref _), (0, .ref _), (1, .int _), (2, .int _)]) dX10_item_16 rfl (by decide) rfl ?_
    refine wp_aload_n 0 dX10_item_17 rfl rfl ?_
    refine wp_getI dX10_item_18 fl_RX10_317 rfl (sh6_K (sh9_ES_slots hS j2 o4)) ?_
    refine wp_if_ne (tgt := 28) dX10_item_21 (by decide) (fun c5 => ?_) (fun c5 => ?_)
    · replace h := h.1 c5
      refine wp_aload_n 0 dX10_item_28 rfl rfl ?_
      refine wp_getI dX10_item_29 fl_RX10_317 rfl (sh6_K (sh9_ES_slots hS j2 o4)) ?_
      refine wp_iconst (v := 2) dX10_item_32 rfl ?_
      refine wp_icmp_eq (tgt := 39) dX10_item_33 (by decide) (fun c6 => ?_) (fun c6 => ?_)
      · replace h := h.1 c6
        refine wp_aload_n 0 dX10_item_39 rfl rfl ?_
        refine wp_getR dX10_item_40 fl_RX10_324 rfl (sh6_K (sh9_ES_slots hS j2 o4)) (sh6_F_sheet (sh9_ES_slots hS j2 o4)) ?_
        refine wp_iload_n 3 dX10_item_43 rfl rfl ?_
        refine wp_cvip dX10_item_44 ck_RX10_282 (sh5_K (sh6_S_sheet (sh9_ES_slots hS j2 o4))) (as := [.int x2]) rfl rfl (Nat.le_of_ble_eq_true rfl) (cp_X5_has G d X M ((a + 245 + 4 * j2) + 1) x2 (sh6_S_sheet (sh9_ES_slots hS j2 o4))) ?_
        refine wp_ifB_ne (inferInstance) (tgt := 54) dX10_item_47 (by decide) (fun c7 => ?_) (fun c7 => ?_)
        · replace h := h.1 c7
          refine wp_aload_n 0 dX10_item_54 rfl rfl ?_
          refine wp_getR dX10_item_55 fl_RX10_324 rfl (sh6_K (sh9_ES_slots hS j2 o4)) (sh6_F_sheet (sh9_ES_slots hS j2 o4)) ?_
          refine wp_getR dX10_item_58 fl_RX10_310 rfl (sh5_K (sh6_S_sheet (sh9_ES_slots hS j2 o4))) (sh5_F_lost (sh6_S_sheet (sh9_ES_slots hS j2 o4))) ?_
          refine wp_iload_n 3 dX10_item_61 rfl rfl ?_
          obtain ⟨j8, o9, o10, h⟩ := h
          refine wp_zald (n := 24) dX10_item_62 (sh5_K_lost (sh6_S_sheet (sh9_ES_slots hS j2 o4))) (sh5_N_lost (sh6_S_sheet (sh9_ES_slots hS j2 o4))) (by decide) o9 o10 ?_
          refine wp_if_eq (tgt := 71) dX10_item_63 (by decide) (fun c11 => ?_) (fun c11 => ?_)
          · replace h := h.1 c11
            refine wp_aload_n 0 dX10_item_71 rfl rfl ?_
            refine wp_getR dX10_item_72 fl_RX10_324 rfl (sh6_K (sh9_ES_slots hS j2 o4)) (sh6_F_sheet (sh9_ES_slots hS j2 o4)) ?_
            refine wp_getR dX10_item_75 fl_RX10_301 rfl (sh5_K (sh6_S_sheet (sh9_ES_slots hS j2 o4))) (sh5_F_values (sh6_S_sheet (sh9_ES_slots hS j2 o4))) ?_
            refine wp_iload_n 3 dX10_item_78 rfl rfl ?_
            refine wp_iald (n := 24) dX10_item_79 (sh5_K_values (sh6_S_sheet (sh9_ES_slots hS j2 o4))) (sh5_N_values (sh6_S_sheet (sh9_ES_slots hS j2 o4))) (by decide) o9 o10 ?_
            exact wn_iret dX10_item_80 rfl h
          · replace h := h.2 c11
            refine wp_ldc dX10_item_66 kc_RX10_110 ?_
            refine wp_goto (tgt := 80) dX10_item_68 (by decide) ?_
            exact wn_iret dX10_item_80 rfl h
        · replace h := h.2 c7
          refine wp_ldcw dX10_item_50 kc_RX10_283 ?_
          exact wn_iret dX10_item_53 rfl h
      · replace h := h.2 c6
        refine wp_ldc dX10_item_36 kc_RX10_110 ?_
        exact wn_iret dX10_item_38 rfl h
    · replace h := h.2 c5
      refine wp_ldcw dX10_item_24 kc_RX10_281 ?_
      exact wn_iret dX10_item_27 rfl h
  · replace h := h.2 c1
    refine wp_ldc dX10_item_7 kc_RX10_67 ?_
    exact wn_iret dX10_item_9 rfl h
theorem bX11_item_0 {G : Gl} {d : Nat} {X : Sh} {M : Mm} {Q : Mm → Int32 → Prop} {a : Nat} {x1 : Int32} {x2 : Int32} (hS : Sh10 X a) (hd : 1 ≤ d) (h : ((0 ≤ x1 ∧ x1 ≤ 4 → (∃ j2 : Nat, x1 = nI j2 ∧ j2 < 5 ∧ (((mI M (a + 7) j2) = 2 → ((0 ≤ x2 ∧ x2 ≤ ((mI M (a + 10) j2) - 1) → (∃ j7 : Nat, ((24 * x1) + x2) = nI j7 ∧ j7 < 120 ∧ (∀ v10 : Int32, v10 = (mI M (a + 11) j7) → ((¬ (v10 = (-1000000005)) → Q M v10) ∧ (v10 = (-1000000005) → Q M (-1000000012)))))) ∧ (¬ (0 ≤ x2 ∧ x2 ≤ ((mI M (a + 10) j2) - 1)) → Q M (-1000000013)))) ∧ (¬ ((mI M (a + 7) j2) = 2) → ((¬ ((mI M (a + 7) j2) = 0) → Q M (-1000000012)) ∧ ((mI M (a + 7) j2) = 0 → Q M (-1000000011))))))) ∧ (¬ (0 ≤ x1 ∧ x1 ≤ 4) → Q M (-1000000001)))) : Wn G m_X11_item (d + 1) 0 [(0, .ref a), (1, .int x1), (2, .int x2)] [] X M Q := by
  refine wp_iload_n 1 dX11_item_0 rfl rfl ?_
  refine wp_csip dX11_item_1 ck_RX11_332 rfl (as := [.int x1]) rfl rfl (Nat.le_of_ble_eq_true rfl) (cp_X11_isSlot G d (by omega) X M x1) ?_
  refine wp_ifB_ne (inferInstance) (tgt := 10) dX11_item_4 (by decide) (fun c1 => ?_) (fun c1 => ?_)
  · replace h := h.1 c1
    refine wp_aload_n 0 dX11_item_10 rfl rfl ?_
    refine wp_getR dX11_item_11 fl_RX11_28 rfl (sh10_K hS) (sh10_F_held hS) ?_
    refine wp_iload_n 1 dX11_item_14 rfl rfl ?_
    obtain ⟨j2, o3, o4, h⟩ := h
    refine wp_iald (n := 5) dX11_item_15 (sh10_K_held hS) (sh10_N_held hS) (by decide) o3 o4 ?_
    refine wp_iconst (v := 2) dX11_item_16 rfl ?_
    refine wp_icmp_eq (tgt := 38) dX11_item_17 (by decide) (fun c5 => ?_) (fun c5 => ?_)
    · replace h := h.1 c5
      refine wp_iload_n 2 dX11_item_38 rfl rfl ?_
      refine wp_i2l dX11_item_39 ?_
      refine wp_lconst (v := 0) dX11_item_40 rfl ?_
      refine wp_aload_n 0 dX11_item_41 rfl rfl ?_
      refine wp_getR dX11_item_42 fl_RX11_37 rfl (sh10_K hS) (sh10_F_heldSize hS) ?_
      refine wp_iload_n 1 dX11_item_45 rfl rfl ?_
      refine wp_iald (n := 5) dX11_item_46 (sh10_K_heldSize hS) (sh10_N_heldSize hS) (by decide) o3 o4 ?_
      refine wp_iconst (v := 1) dX11_item_47 rfl ?_
      refine wp_isub dX11_item_48 ?_
      refine wp_i2l dX11_item_49 ?_
      refine wp_csip dX11_item_50 ck_RX11_78 rfl (as := [.long x2.toInt64, .long 0, .long (((mI M (a + 10) j2) - 1).toInt64)]) rfl rfl (Nat.le_of_ble_eq_true rfl) (cp_X11_isIn G d X M x2 0 ((mI M (a + 10) j2) - 1) (by decide) rfl) ?_
      refine wp_ifB_ne (inferInstance) (tgt := 60) dX11_item_53 (by decide) (fun c6 => ?_) (fun c6 => ?_)
      · replace h := h.1 c6
        refine wp_aload_n 0 dX11_item_60 rfl rfl ?_
        refine wp_getR dX11_item_61 fl_RX11_40 rfl (sh10_K hS) (sh10_F_heldRow hS) ?_
        refine wp_bipush (v := 24) dX11_item_64 rfl ?_
        refine wp_iload_n 1 dX11_item_66 rfl rfl ?_
        refine wp_imul dX11_item_67 ?_
        refine wp_iload_n 2 dX11_item_68 rfl rfl ?_
        refine wp_iadd dX11_item_69 ?_
        obtain ⟨j7, o8, o9, h⟩ := h
        refine wp_iald (n := 120) dX11_item_70 (sh10_K_heldRow hS) (sh10_N_heldRow hS) (by decide) o8 o9 ?_
        refine wp_topi (fun v10 ev10 => ?_)
        replace h := h v10 ev10
        refine wp_istore_n (lo2 := [(3, .int _), (0, .ref _), (1, .int _), (2, .int _)]) dX11_item_71 rfl (by decide) rfl ?_
        refine wp_iload_n 0 dX11_item_72 rfl rfl ?_
        refine wp_ldc dX11_item_73 kc_RX11_77 ?_
        refine wp_icmp_ne (tgt := 83) dX11_item_75 (by decide) (fun c11 => ?_) (fun c11 => ?_)
        · replace h := h.1 c11
          refine wp_iload_n 0 dX11_item_83 rfl rfl ?_
          exact wn_iret dX11_item_84 rfl h
        · replace h := h.2 c11
          refine wp_ldc dX11_item_78 kc_RX11_124 ?_
          refine wp_goto (tgt := 84) dX11_item_80 (by decide) ?_
          exact wn_iret dX11_item_84 rfl h
      · replace h := h.2 c6
        refine wp_ldcw dX11_item_56 kc_RX11_329 ?_
        exact wn_iret dX11_item_59 rfl h
    · replace h := h.2 c5
      refine wp_aload_n 0 dX11_item_20 rfl rfl ?_
      refine wp_getR dX11_item_21 fl_RX11_28 rfl (sh10_K hS) (sh10_F_held hS) ?_
      refine wp_iload_n 1 dX11_item_24 rfl rfl ?_
      refine wp_iald (n := 5) dX11_item_25 (sh10_K_held hS) (sh10_N_held hS) (by decide) o3 o4 ?_
      refine wp_if_ne (tgt := 35) dX11_item_26 (by decide) (fun c12 => ?_) (fun c12 => ?_)
      · replace h := h.1 c12
        refine wp_ldc dX11_item_35 kc_RX11_124 ?_
        exact wn_iret dX11_item_37 rfl h
      · replace h := h.2 c12
        refine wp_ldcw dX11_item_29 kc_RX11_328 ?_
        refine wp_goto (tgt := 37) dX11_item_32 (by decide) ?_
        exact wn_iret dX11_item_37 rfl h
  · replace h := h.2 c1
    refine wp_ldc dX11_item_7 kc_RX11_100 ?_
    exact wn_iret dX11_item_9 rfl h
theorem case_item (G : Gl) (d : Nat) (hd : 8 ≤ d) (X : Sh) (b m : Nat) (hS : Sh9 X b) (hM : Sh10 X m) (x1 x2 : Int32) : Case G d X b m m_X10_item m_X11_item [.int x1, .int x2] := by
  obtain ⟨d, rfl⟩ : ∃ d1, d = d1 + 1 := ⟨d - 1, by omega⟩
  refine Case.pure (fun M nb nl nx nt nd la hh hr => ?_)
  obtain ⟨_, _, _, _, hl, _⟩ := hr
  by_cases h : 0 ≤ x1 ∧ x1 ≤ 4
  · obtain ⟨i, hi, rfl⟩ := ix_le (nb := 4) (by omega) h.1 h.2
    obtain ⟨s0, ⟨v, hv, s1⟩, s2, s3, s4⟩ := hl i (by omega)
    by_cases h3 : mI M (m + 7) i = 2
    · obtain ⟨⟨n, hn, n1, n2⟩, cells⟩ := s4 h3
      have h0 : ¬ mI M (b + 245 + 4 * i) 0 = 0 := fun q => by
        rw [s0, h3] at q
        exact absurd q (by decide)
      have h2 : mI M (b + 245 + 4 * i) 0 = 2 := s0.trans h3
      have n1' : mI M (b + 245 + 4 * i + 1) 1 = nI n := by
        rw [← n1]
        congr 1
        omega
      by_cases hx : 0 ≤ x2 ∧ x2 < nI n
      · have hx1 : 0 ≤ x2 ∧ x2 < mI M (b + 245 + 4 * i + 1) 1 := by rw [n1']; exact hx
        have hx2 : 0 ≤ x2 ∧ x2 ≤ mI M (m + 10) i - 1 := by rw [n2, has_iff (by omega)]; exact hx
        obtain ⟨j, hj, rfl⟩ := ix_of (by omega) hx.1 hx.2
        have c := cells j (by omega)
        rw [show b + 247 + 4 * i = b + 245 + 4 * i + 1 + 1 by omega, show b + 248 + 4 * i = b + 245 + 4 * i + 1 + 2 by omega] at c
        rcases c with ⟨c1, c2⟩ | ⟨c1, c2, c3⟩
        · refine ⟨-1000000012, Cn.of (by decide) (Nat.le_of_ble_eq_true rfl) (bX10_item_0 hS (by omega) ⟨fun _ => ⟨i, rfl, by omega, fun _ => ⟨fun _ => ⟨fun _ => ⟨j, rfl, by omega, fun q => ?_, fun _ => ⟨rfl, rfl⟩⟩, fun q => absurd hx1 q⟩, fun q => absurd h2 q⟩, fun q => absurd q h0⟩, fun q => absurd h q⟩), Cn.of (by decide) (Nat.le_of_ble_eq_true rfl) (bX11_item_0 hM (by omega) ⟨fun _ => ⟨i, rfl, by omega, fun _ => ⟨fun _ => ⟨24 * i + j, (by first | rfl | (simp only [n_lit, nI_add, pk_mul]; done) | (simp only [n_lit, nI_add, pk_mul]; exact congrArg nI (by omega))), by omega, ?_⟩, fun q => absurd hx2 q⟩, fun q => absurd h3 q⟩, fun q => absurd h q⟩)⟩
          · rw [c2] at q
            exact absurd q (by decide)
          · rintro v10 rfl
            exact ⟨fun q => absurd c1 q, fun _ => ⟨rfl, rfl⟩⟩
        · refine ⟨mI M (m + 11) (24 * i + j), Cn.of (by decide) (Nat.le_of_ble_eq_true rfl) (bX10_item_0 hS (by omega) ⟨fun _ => ⟨i, rfl, by omega, fun _ => ⟨fun _ => ⟨fun _ => ⟨j, rfl, by omega, fun _ => ⟨rfl, c3⟩, fun q => ?_⟩, fun q => absurd hx1 q⟩, fun q => absurd h2 q⟩, fun q => absurd q h0⟩, fun q => absurd h q⟩), Cn.of (by decide) (Nat.le_of_ble_eq_true rfl) (bX11_item_0 hM (by omega) ⟨fun _ => ⟨i, rfl, by omega, fun _ => ⟨fun _ => ⟨24 * i + j, (by first | rfl | (simp only [n_lit, nI_add, pk_mul]; done) | (simp only [n_lit, nI_add, pk_mul]; exact congrArg nI (by omega))), by omega, ?_⟩, fun q => absurd hx2 q⟩, fun q => absurd h3 q⟩, fun q => absurd h q⟩)⟩
          · rw [c2] at q
            exact absurd (by decide) q
          · rintro v10 rfl
            exact ⟨fun _ => ⟨rfl, rfl⟩, fun q => absurd q c1⟩
      · have hx1 : ¬ (0 ≤ x2 ∧ x2 < mI M (b + 245 + 4 * i + 1) 1) := by rw [n1']; exact hx
        have hx2 : ¬ (0 ≤ x2 ∧ x2 ≤ mI M (m + 10) i - 1) := by rw [n2, has_iff (by omega)]; exact hx
        exact ⟨-1000000013, Cn.of (by decide) (Nat.le_of_ble_eq_true rfl) (bX10_item_0 hS (by omega) ⟨fun _ => ⟨i, rfl, by omega, fun _ => ⟨fun _ => ⟨fun q => absurd q hx1, fun _ => ⟨rfl, rfl⟩⟩, fun q => absurd h2 q⟩, fun q => absurd q h0⟩, fun q => absurd h q⟩), Cn.of (by decide) (Nat.le_of_ble_eq_true rfl) (bX11_item_0 hM (by omega) ⟨fun _ => ⟨i, rfl, by omega, fun _ => ⟨fun q => absurd q hx2, fun _ => ⟨rfl, rfl⟩⟩, fun q => absurd h3 q⟩, fun q => absurd h q⟩)⟩
    · by_cases h0 : mI M (m + 7) i = 0
      · exact ⟨-1000000011, Cn.of (by decide) (Nat.le_of_ble_eq_true rfl) (bX10_item_0 hS (by omega) ⟨fun _ => ⟨i, rfl, by omega, fun q => absurd (s0.trans h0) q, fun _ => ⟨rfl, rfl⟩⟩, fun q => absurd h q⟩), Cn.of (by decide) (Nat.le_of_ble_eq_true rfl) (bX11_item_0 hM (by omega) ⟨fun _ => ⟨i, rfl, by omega, fun q => absurd q h3, fun _ => ⟨fun q => absurd h0 q, fun _ => ⟨rfl, rfl⟩⟩⟩, fun q => absurd h q⟩)⟩
      · exact ⟨-1000000012, Cn.of (by decide) (Nat.le_of_ble_eq_true rfl) (bX10_item_0 hS (by omega) ⟨fun _ => ⟨i, rfl, by omega, fun _ => ⟨fun q => absurd (s0.symm.trans q) h3, fun _ => ⟨rfl, rfl⟩⟩, fun q => absurd (s0.symm.trans q) h0⟩, fun q => absurd h q⟩), Cn.of (by decide) (Nat.le_of_ble_eq_true rfl) (bX11_item_0 hM (by omega) ⟨fun _ => ⟨i, rfl, by omega, fun q => absurd q h3, fun _ => ⟨fun _ => ⟨rfl, rfl⟩, fun q => absurd q h0⟩⟩, fun q => absurd h q⟩)⟩
  · exact ⟨-1000000001, Cn.of (by decide) (Nat.le_of_ble_eq_true rfl) (bX10_item_0 hS (by omega) ⟨fun q => absurd q h, fun _ => ⟨rfl, rfl⟩⟩), Cn.of (by decide) (Nat.le_of_ble_eq_true rfl) (bX11_item_0 hM (by omega) ⟨fun q => absurd q h, fun _ => ⟨rfl, rfl⟩⟩)⟩
