/-! sound: slips, the reference, the call -/
theorem bX5_slips_0 {G : Gl} {d : Nat} {X : Sh} {M : Mm} {Q : Mm → Int32 → Prop} {a : Nat} {x1 : Int32} (hS : Sh5 X a) (h : Wn G m_X5_slips (d + 1) 4 [(0, .ref a), (1, .int x1), (2, .int 0), (3, .int 0)] [] X M Q) : Wn G m_X5_slips (d + 1) 0 [(0, .ref a), (1, .int x1)] [] X M Q := by
  refine wp_iconst (v := 0) dX5_slips_0 rfl ?_
  refine wp_istore_n (lo2 := [(2, .int _), (0, .ref _), (1, .int _)]) dX5_slips_1 rfl (by decide) rfl ?_
  refine wp_iconst (v := 0) dX5_slips_2 rfl ?_
  refine wp_istore_n (lo2 := [(3, .int _), (2, .int _), (0, .ref _), (1, .int _)]) dX5_slips_3 rfl (by decide) rfl ?_
  exact Wp.sub [2, 3, 1, 0] rfl h
theorem bX5_slips_4 {G : Gl} {d : Nat} {X : Sh} {M : Mm} {Q : Mm → Int32 → Prop} {a : Nat} {x1 : Int32} {x2 : Int32} {x3 : Int32} (hS : Sh5 X a) (h : (((mI M a 1) ≤ x3 → Q M x2) ∧ (¬ ((mI M a 1) ≤ x3) → (∃ q2 : Mm → Int32 → Prop, Cn G m_X5_knownAhead d [.ref a, .int x3] X M q2 ∧ ∀ M4 r5, q2 M4 r5 → (∃ j7 : Nat, x3 = nI j7 ∧ j7 < 24 ∧ ((¬ ((mI M4 (a + 2) j7 &&& 1) = 0) → Wn G m_X5_slips (d + 1) 4 [(0, .ref a), (1, .int x1), (2, .int x2), (3, .int (x3 + 1))] [] X M4 Q) ∧ ((mI M4 (a + 2) j7 &&& 1) = 0 → ((r5 < 0 → Wn G m_X5_slips (d + 1) 4 [(0, .ref a), (1, .int x1), (2, .int x2), (3, .int (x3 + 1))] [] X M4 Q) ∧ (¬ (r5 < 0) → (∃ j12 : Nat, r5 = nI j12 ∧ j12 < 24 ∧ ((((mI M4 (a + 1) j12) - (mI M4 (a + 1) j7)) ≤ x1 → Wn G m_X5_slips (d + 1) 4 [(0, .ref a), (1, .int x1), (2, .int x2), (3, .int (x3 + 1))] [] X M4 Q) ∧ (¬ (((mI M4 (a + 1) j12) - (mI M4 (a + 1) j7)) ≤ x1) → Wn G m_X5_slips (d + 1) 4 [(0, .ref a), (1, .int x1), (2, .int (x2 + 1)), (3, .int (x3 + 1))] [] X M4 Q)))))))))))) : Wn G m_X5_slips (d + 1) 4 [(0, .ref a), (1, .int x1), (2, .int x2), (3, .int x3)] [] X M Q := by
  refine wp_iload_n 3 dX5_slips_4 rfl rfl ?_
  refine wp_aload_n 0 dX5_slips_5 rfl rfl ?_
  refine wp_getI dX5_slips_6 fl_RX5_15 rfl (sh5_K hS) ?_
  refine wp_icmp_ge (tgt := 60) dX5_slips_9 (by decide) (fun c1 => ?_) (fun c1 => ?_)
  · replace h := h.1 c1
    refine wp_iload_n 2 dX5_slips_60 rfl rfl ?_
    exact wn_iret dX5_slips_61 rfl h
  · replace h := h.2 c1
    refine wp_aload_n 0 dX5_slips_12 rfl rfl ?_
    refine wp_iload_n 3 dX5_slips_13 rfl rfl ?_
    obtain ⟨q2, o3, h⟩ := h
    refine wp_cvi dX5_slips_14 ck_RX5_32 (sh5_K hS) (as := [.int x3]) rfl rfl (Nat.le_of_ble_eq_true rfl) o3 (fun M4 r5 o6 => ?_)
    replace h := h M4 r5 o6
    refine wp_istore (lo2 := [(4, .int _), (0, .ref _), (1, .int _), (2, .int _), (3, .int _)]) dX5_slips_17 (by decide) rfl ?_
    refine wp_aload_n 1 dX5_slips_19 rfl rfl ?_
    refine wp_getR dX5_slips_20 fl_RX5_22 rfl (sh5_K hS) (sh5_F_lost hS) ?_
    refine wp_iload_n 4 dX5_slips_23 rfl rfl ?_
    obtain ⟨j7, o8, o9, h⟩ := h
    refine wp_zald (n := 24) dX5_slips_24 (sh5_K_lost hS) (sh5_N_lost hS) (by decide) o8 o9 ?_
    refine wp_if_ne (tgt := 54) dX5_slips_25 (by decide) (fun c10 => ?_) (fun c10 => ?_)
    · replace h := h.1 c10
      refine wp_iinc (v := x3 + 1) (lo2 := [(3, .int _), (4, .int _), (0, .ref _), (1, .int _), (2, .int _)]) dX5_slips_54 (q := 4) rfl rfl (by decide) rfl ?_
      refine wp_goto (tgt := 4) dX5_slips_57 (by decide) ?_
      exact Wp.sub [2, 3, 4, 0] rfl h
    · replace h := h.2 c10
      refine wp_iload 0 dX5_slips_28 rfl ?_
      refine wp_if_lt (tgt := 54) dX5_slips_30 (by decide) (fun c11 => ?_) (fun c11 => ?_)
      · replace h := h.1 c11
        refine wp_iinc (v := x3 + 1) (lo2 := [(3, .int _), (4, .int _), (0, .ref _), (1, .int _), (2, .int _)]) dX5_slips_54 (q := 4) rfl rfl (by decide) rfl ?_
        refine wp_goto (tgt := 4) dX5_slips_57 (by decide) ?_
        exact Wp.sub [2, 3, 4, 0] rfl h
      · replace h := h.2 c11
        refine wp_aload_n 1 dX5_slips_33 rfl rfl ?_
        refine wp_getR dX5_slips_34 fl_RX5_18 rfl (sh5_K hS) (sh5_F_values hS) ?_
        refine wp_iload 0 dX5_slips_37 rfl ?_
        obtain ⟨j12, o13, o14, h⟩ := h
        refine wp_iald (n := 24) dX5_slips_39 (sh5_K_values hS) (sh5_N_values hS) (by decide) o13 o14 ?_
        refine wp_aload_n 1 dX5_slips_40 rfl rfl ?_
        refine wp_getR dX5_slips_41 fl_RX5_18 rfl (sh5_K hS) (sh5_F_values hS) ?_
        refine wp_iload_n 4 dX5_slips_44 rfl rfl ?_
        refine wp_iald (n := 24) dX5_slips_45 (sh5_K_values hS) (sh5_N_values hS) (by decide) o8 o9 ?_
        refine wp_isub dX5_slips_46 ?_
        refine wp_iload_n 2 dX5_slips_47 rfl rfl ?_
        refine wp_icmp_le (tgt := 54) dX5_slips_48 (by decide) (fun c15 => ?_) (fun c15 => ?_)
        · replace h := h.1 c15
          refine wp_iinc (v := x3 + 1) (lo2 := [(3, .int _), (4, .int _), (0, .ref _), (1, .int _), (2, .int _)]) dX5_slips_54 (q := 4) rfl rfl (by decide) rfl ?_
          refine wp_goto (tgt := 4) dX5_slips_57 (by decide) ?_
          exact Wp.sub [2, 3, 4, 0] rfl h
        · replace h := h.2 c15
          refine wp_iinc (v := x2 + 1) (lo2 := [(2, .int _), (4, .int _), (0, .ref _), (1, .int _), (3, .int _)]) dX5_slips_51 (q := 3) rfl rfl (by decide) rfl ?_
          refine wp_iinc (v := x3 + 1) (lo2 := [(3, .int _), (2, .int _), (4, .int _), (0, .ref _), (1, .int _)]) dX5_slips_54 (q := 4) rfl rfl (by decide) rfl ?_
          refine wp_goto (tgt := 4) dX5_slips_57 (by decide) ?_
          exact Wp.sub [3, 4, 1, 0] rfl h
theorem bX10_sound_0 {G : Gl} {d : Nat} {X : Sh} {M : Mm} {Q : Mm → Int32 → Prop} {a : Nat} {x1 : Int32} {x2 : Int32} {x3 : Int32} (hS : Sh9 X a) (hd : 1 ≤ d) (h : ((¬ (0 ≤ x1 ∧ x1 ≤ 3) → Q M (-1000000001)) ∧ (0 ≤ x1 ∧ x1 ≤ 3 → ((¬ (0 ≤ x2 ∧ x2 ≤ 1) → Q M (-1000000001)) ∧ (0 ≤ x2 ∧ x2 ≤ 1 → ((¬ (x2 = 1) → (∃ j4 : Nat, x1 = nI j4 ∧ j4 < 4 ∧ ((¬ ((mI M (a + 232 + 3 * j4) 0) = (-1)) → ((¬ (x2 = 0) → (∃ q9 : Mm → Int32 → Prop, Cn G m_X5_slips d [.ref (a + 232 + 3 * j4), .int x3] X M q9 ∧ ∀ M11 r12, q9 M11 r12 → Q M11 r12)) ∧ (x2 = 0 → (∃ q14 : Mm → Int32 → Prop, Cn G m_X5_hangs d [.ref (a + 232 + 3 * j4)] X M q14 ∧ ∀ M16 r17, q14 M16 r17 → Q M16 r17)))) ∧ ((mI M (a + 232 + 3 * j4) 0) = (-1) → Q M (-1000000011))))) ∧ (x2 = 1 → ((0 ≤ x3 ∧ x3 ≤ 9999 → (∃ j20 : Nat, x1 = nI j20 ∧ j20 < 4 ∧ ((¬ ((mI M (a + 232 + 3 * j20) 0) = (-1)) → ((¬ (x2 = 0) → (∃ q25 : Mm → Int32 → Prop, Cn G m_X5_slips d [.ref (a + 232 + 3 * j20), .int x3] X M q25 ∧ ∀ M27 r28, q25 M27 r28 → Q M27 r28)) ∧ (x2 = 0 → (∃ q30 : Mm → Int32 → Prop, Cn G m_X5_hangs d [.ref (a + 232 + 3 * j20)] X M q30 ∧ ∀ M32 r33, q30 M32 r33 → Q M32 r33)))) ∧ ((mI M (a + 232 + 3 * j20) 0) = (-1) → Q M (-1000000011))))) ∧ (¬ (0 ≤ x3 ∧ x3 ≤ 9999) → Q M (-1000000001)))))))))) : Wn G m_X10_sound (d + 1) 0 [(0, .ref a), (1, .int x1), (2, .int x2), (3, .int x3)] [] X M Q := by
  refine wp_iload_n 1 dX10_sound_0 rfl rfl ?_
  refine wp_csip dX10_sound_1 ck_RX10_271 rfl (as := [.int x1]) rfl rfl (Nat.le_of_ble_eq_true rfl) (cp_X10_isSheet G d (by omega) X M x1) ?_
  refine wp_ifB_eq (inferInstance) (tgt := 32) dX10_sound_4 (by decide) (fun c1 => ?_) (fun c1 => ?_)
  · replace h := h.1 c1
    refine wp_ldc dX10_sound_32 kc_RX10_67 ?_
    exact wn_iret dX10_sound_34 rfl h
  · replace h := h.2 c1
    refine wp_iload_n 2 dX10_sound_7 rfl rfl ?_
    refine wp_iconst (v := 0) dX10_sound_8 rfl ?_
    refine wp_iconst (v := 1) dX10_sound_9 rfl ?_
    refine wp_csip dX10_sound_10 ck_RX10_63 rfl (as := [.int x2, .int 0, .int 1]) rfl rfl (Nat.le_of_ble_eq_true rfl) (cp_X10_isWithin G d X M x2 0 1) ?_
    refine wp_ifB_eq (inferInstance) (tgt := 32) dX10_sound_13 (by decide) (fun c2 => ?_) (fun c2 => ?_)
    · replace h := h.1 c2
      refine wp_ldc dX10_sound_32 kc_RX10_67 ?_
      exact wn_iret dX10_sound_34 rfl h
    · replace h := h.2 c2
      refine wp_iload_n 2 dX10_sound_16 rfl rfl ?_
      refine wp_iconst (v := 1) dX10_sound_17 rfl ?_
      refine wp_icmp_ne (tgt := 35) dX10_sound_18 (by decide) (fun c3 => ?_) (fun c3 => ?_)
      · replace h := h.1 c3
        refine wp_aload_n 0 dX10_sound_35 rfl rfl ?_
        refine wp_getR dX10_sound_36 fl_RX10_39 rfl (sh9_K hS) (sh9_F_sheets hS) ?_
        refine wp_iload_n 1 dX10_sound_39 rfl rfl ?_
        obtain ⟨j4, o5, o6, h⟩ := h
        refine wp_fald (n := 4) dX10_sound_40 (Or.inl (sh9_K_sheets hS)) (sh9_N_sheets hS) (by decide) o5 o6 (sh9_E_sheets hS j4 o6) ?_
        refine wp_getI dX10_sound_41 fl_RX10_278 rfl (sh5_K (sh9_ES_sheets hS j4 o6)) ?_
        refine wp_iconst (v := (-1)) dX10_sound_44 rfl ?_
        refine wp_icmp_ne (tgt := 52) dX10_sound_45 (by decide) (fun c7 => ?_) (fun c7 => ?_)
        · replace h := h.1 c7
          refine wp_iload_n 2 dX10_sound_52 rfl rfl ?_
          refine wp_if_ne (tgt := 68) dX10_sound_53 (by decide) (fun c8 => ?_) (fun c8 => ?_)
          · replace h := h.1 c8
            refine wp_aload_n 0 dX10_sound_68 rfl rfl ?_
            refine wp_getR dX10_sound_69 fl_RX10_39 rfl (sh9_K hS) (sh9_F_sheets hS) ?_
            refine wp_iload_n 1 dX10_sound_72 rfl rfl ?_
            refine wp_fald (n := 4) dX10_sound_73 (Or.inl (sh9_K_sheets hS)) (sh9_N_sheets hS) (by decide) o5 o6 (sh9_E_sheets hS j4 o6) ?_
            refine wp_iload_n 3 dX10_sound_74 rfl rfl ?_
            obtain ⟨q9, o10, h⟩ := h
            refine wp_cvi dX10_sound_75 ck_RX10_294 (sh5_K (sh9_ES_sheets hS j4 o6)) (as := [.int x3]) rfl rfl (Nat.le_of_ble_eq_true rfl) o10 (fun M11 r12 o13 => ?_)
            replace h := h M11 r12 o13
            exact wn_iret dX10_sound_78 rfl h
          · replace h := h.2 c8
            refine wp_aload_n 0 dX10_sound_56 rfl rfl ?_
            refine wp_getR dX10_sound_57 fl_RX10_39 rfl (sh9_K hS) (sh9_F_sheets hS) ?_
            refine wp_iload_n 1 dX10_sound_60 rfl rfl ?_
            refine wp_fald (n := 4) dX10_sound_61 (Or.inl (sh9_K_sheets hS)) (sh9_N_sheets hS) (by decide) o5 o6 (sh9_E_sheets hS j4 o6) ?_
            obtain ⟨q14, o15, h⟩ := h
            refine wp_cvi dX10_sound_62 ck_RX10_291 (sh5_K (sh9_ES_sheets hS j4 o6)) (as := []) rfl rfl (Nat.le_of_ble_eq_true rfl) o15 (fun M16 r17 o18 => ?_)
            replace h := h M16 r17 o18
            refine wp_goto (tgt := 78) dX10_sound_65 (by decide) ?_
            exact wn_iret dX10_sound_78 rfl h
        · replace h := h.2 c7
          refine wp_ldcw dX10_sound_48 kc_RX10_281 ?_
          exact wn_iret dX10_sound_51 rfl h
      · replace h := h.2 c3
        refine wp_iload_n 3 dX10_sound_21 rfl rfl ?_
        refine wp_iconst (v := 0) dX10_sound_22 rfl ?_
        refine wp_sipush (v := 9999) dX10_sound_23 rfl ?_
        refine wp_csip dX10_sound_26 ck_RX10_63 rfl (as := [.int x3, .int 0, .int 9999]) rfl rfl (Nat.le_of_ble_eq_true rfl) (cp_X10_isWithin G d X M x3 0 9999) ?_
        refine wp_ifB_ne (inferInstance) (tgt := 35) dX10_sound_29 (by decide) (fun c19 => ?_) (fun c19 => ?_)
        · replace h := h.1 c19
          refine wp_aload_n 0 dX10_sound_35 rfl rfl ?_
          refine wp_getR dX10_sound_36 fl_RX10_39 rfl (sh9_K hS) (sh9_F_sheets hS) ?_
          refine wp_iload_n 1 dX10_sound_39 rfl rfl ?_
          obtain ⟨j20, o21, o22, h⟩ := h
          refine wp_fald (n := 4) dX10_sound_40 (Or.inl (sh9_K_sheets hS)) (sh9_N_sheets hS) (by decide) o21 o22 (sh9_E_sheets hS j20 o22) ?_
          refine wp_getI dX10_sound_41 fl_RX10_278 rfl (sh5_K (sh9_ES_sheets hS j20 o22)) ?_
          refine wp_iconst (v := (-1)) dX10_sound_44 rfl ?_
          refine wp_icmp_ne (tgt := 52) dX10_sound_45 (by decide) (fun c23 => ?_) (fun c23 => ?_)
          · replace h := h.1 c23
            refine wp_iload_n 2 dX10_sound_52 rfl rfl ?_
            refine wp_if_ne (tgt := 68) dX10_sound_53 (by decide) (fun c24 => ?_) (fun c24 => ?_)
            · replace h := h.1 c24
              refine wp_aload_n 0 dX10_sound_68 rfl rfl ?_
              refine wp_getR dX10_sound_69 fl_RX10_39 rfl (sh9_K hS) (sh9_F_sheets hS) ?_
              refine wp_iload_n 1 dX10_sound_72 rfl rfl ?_
              refine wp_fald (n := 4) dX10_sound_73 (Or.inl (sh9_K_sheets hS)) (sh9_N_sheets hS) (by decide) o21 o22 (sh9_E_sheets hS j20 o22) ?_
              refine wp_iload_n 3 dX10_sound_74 rfl rfl ?_
              obtain ⟨q25, o26, h⟩ := h
              refine wp_cvi dX10_sound_75 ck_RX10_294 (sh5_K (sh9_ES_sheets hS j20 o22)) (as := [.int x3]) rfl rfl (Nat.le_of_ble_eq_true rfl) o26 (fun M27 r28 o29 => ?_)
              replace h := h M27 r28 o29
              exact wn_iret dX10_sound_78 rfl h
            · replace h := h.2 c24
              refine wp_aload_n 0 dX10_sound_56 rfl rfl ?_
              refine wp_getR dX10_sound_57 fl_RX10_39 rfl (sh9_K hS) (sh9_F_sheets hS) ?_
              refine wp_iload_n 1 dX10_sound_60 rfl rfl ?_
              refine wp_fald (n := 4) dX10_sound_61 (Or.inl (sh9_K_sheets hS)) (sh9_N_sheets hS) (by decide) o21 o22 (sh9_E_sheets hS j20 o22) ?_
              obtain ⟨q30, o31, h⟩ := h
              refine wp_cvi dX10_sound_62 ck_RX10_291 (sh5_K (sh9_ES_sheets hS j20 o22)) (as := []) rfl rfl (Nat.le_of_ble_eq_true rfl) o31 (fun M32 r33 o34 => ?_)
              replace h := h M32 r33 o34
              refine wp_goto (tgt := 78) dX10_sound_65 (by decide) ?_
              exact wn_iret dX10_sound_78 rfl h
          · replace h := h.2 c23
            refine wp_ldcw dX10_sound_48 kc_RX10_281 ?_
            exact wn_iret dX10_sound_51 rfl h
        · replace h := h.2 c19
          refine wp_ldc dX10_sound_32 kc_RX10_67 ?_
          exact wn_iret dX10_sound_34 rfl h
theorem cl_slips (G : Gl) (d : Nat) {X : Sh} {M : Mm} {a N : Nat} {x : Nat → Int32} {n : Int32} {Q : Mm → Int32 → Prop} (hS : Sh5 X a) (hN : N ≤ 24) (hc : Cells M a x) (hn : mI M a 1 = nI N) (hq : Q M (sd x n N).2.2) : ∀ m k : Nat, k + m = N → Wn G m_X5_slips (d + 1) 4 [(0, .ref a), (1, .int n), (2, .int (sd x n k).2.2), (3, .int (nI k))] [] X M Q
  | 0, k, h => by
    have hk : k = N := h
    subst hk
    exact bX5_slips_4 hS ⟨fun _ => hq, fun q => absurd (by rw [hn]; exact Int32.le_refl _) q⟩
  | m + 1, k, h => by
    have ih := cl_slips G d hS hN hc hn hq m (k + 1) (by omega)
    have hl := cell_lost (hc k (by omega))
    have hkn : kAi x k = match kA x k with | none => -1 | some i => nI i := rfl
    refine bX5_slips_4 hS ⟨fun q => ?_, fun _ => ⟨_, cp_X5_knownAhead G d X M a k x hS hc (by omega), ?_⟩⟩
    · rw [hn] at q
      have := (nI_leI (by omega) (by omega)).mp q
      omega
    rintro M4 r5 ⟨e, e5⟩
    have e := e.symm
    subst e
    refine ⟨k, rfl, by omega, fun q => ?_, fun q => ?_⟩
    · have z : x k = -1000000005 := Decidable.byContradiction (fun z => q (hl.mpr z))
      have e : sd x n (k + 1) = sd x n k := if_pos z
      rw [e] at ih
      rw [nI_1]
      exact ih
    · have z := hl.mp q
      have e : sd x n (k + 1) = _ := if_neg z
      rw [e] at ih
      have xk : mI M (a + 1) k = x k := by
        rcases hc k (by omega) with ⟨h1, _⟩ | ⟨_, _, h3⟩
        · exact absurd h1 z
        · exact h3
      cases hka : kA x k with
      | none =>
        rw [hka] at hkn
        refine ⟨fun _ => ?_, fun q2 => absurd (by rw [e5, hkn]; decide) q2⟩
        rw [kAv_none hka] at ih
        rw [nI_1]
        have e1 : (sd x n k).2.2 + (if (¬ ((-1000000005 : Int32) = -1000000005)) ∧ (¬ (((-1000000005) - x k) ≤ n)) then 1 else 0) = (sd x n k).2.2 := by
          rw [if_neg (fun w => w.1 rfl), Int32.add_zero]
        rw [e1] at ih
        exact ih
      | some i =>
        rw [hka] at hkn
        have hi := kA_lt hka
        have xi : mI M (a + 1) i = x i := by
          rcases hc i (by omega) with ⟨h1, _⟩ | ⟨_, _, h3⟩
          · exact absurd h1 hi.2
          · exact h3
        rw [kAv_some hka] at ih
        refine ⟨fun q2 => ?_, fun _ => ⟨i, by rw [e5, hkn], by omega, fun q3 => ?_, fun q3 => ?_⟩⟩
        · rw [e5, hkn] at q2
          exact absurd q2 (nI_pos (by omega))
        · rw [xk, xi] at q3
          have e9 : (sd x n k).2.2 + (if (¬ (x i = -1000000005)) ∧ (¬ ((x i - x k) ≤ n)) then 1 else 0) = (sd x n k).2.2 := by rw [if_neg (fun w => w.2 q3), Int32.add_zero]
          have ih2 : Wn G m_X5_slips (d + 1) 4 [(0, .ref a), (1, .int n), (2, .int ((sd x n k).2.2 + (if (¬ (x i = -1000000005)) ∧ (¬ ((x i - x k) ≤ n)) then 1 else 0))), (3, .int (nI (k + 1)))] [] X M Q := ih
          rw [e9] at ih2
          rw [nI_1]
          exact ih2
        · rw [xk, xi] at q3
          have e9 : (sd x n k).2.2 + (if (¬ (x i = -1000000005)) ∧ (¬ ((x i - x k) ≤ n)) then 1 else 0) = (sd x n k).2.2 + 1 := by rw [if_pos ⟨hi.2, q3⟩]
          have ih2 : Wn G m_X5_slips (d + 1) 4 [(0, .ref a), (1, .int n), (2, .int ((sd x n k).2.2 + (if (¬ (x i = -1000000005)) ∧ (¬ ((x i - x k) ≤ n)) then 1 else 0))), (3, .int (nI (k + 1)))] [] X M Q := ih
          rw [e9] at ih2
          rw [nI_1]
          exact ih2
theorem kAv_next {x : Nat → Int32} {k : Nat} : kAv x (k + 1) = if x k = -1000000005 then kAv x k else x k := by
  have e : kA x (k + 1) = if x k = -1000000005 then kA x k else some k := rfl
  unfold kAv
  rw [e]
  by_cases q : x k = -1000000005
  · rw [if_pos q, if_pos q]
  · rw [if_neg q, if_neg q]
theorem cl_X11_sound (G : Gl) (d : Nat) {X : Sh} {M : Mm} {m i N : Nat} {w n : Int32} {x : Nat → Int32} {Q : Mm → Int32 → Prop} (hM : Sh10 X m) (hi : i < 4) (hN : N ≤ 24) (hn : mI M (m + 5) i = nI N) (hx : ∀ j, j < 24 → mI M (m + 6) (24 * i + j) = x j) (hq : Q M (if w = 0 then (sd x n N).1 else (sd x n N).2.2)) : ∀ r k : Nat, k + r = N → Wn G m_X11_sound (d + 1) 66 [(0, .ref m), (1, .int (nI i)), (2, .int w), (3, .int n), (4, .int (sd x n k).1), (5, .int (sd x n k).2.1), (6, .int (sd x n k).2.2), (7, .int (kAv x k)), (8, .int (nI k))] [] X M Q
  | 0, k, h => by
    have hk : k = N := h
    subst hk
    exact bX11_sound_66 hM ⟨i, rfl, hi, fun _ => hq, fun q => absurd (by rw [hn]; exact Int32.le_refl _) q⟩
  | r + 1, k, h => by
    have ih := cl_X11_sound G d hM hi hN hn hx hq r (k + 1) (by omega)
    rw [kAv_next] at ih
    refine bX11_sound_66 hM ⟨i, rfl, hi, fun q => ?_, fun _ => ⟨24 * i + k, (by first | rfl | (simp only [n_lit, nI_add, pk_mul]; done) | (simp only [n_lit, nI_add, pk_mul]; exact congrArg nI (by omega))), by omega, ?_⟩⟩
    · rw [hn] at q
      have := (nI_leI (by omega) (by omega)).mp q
      omega
    intro v10 e10
    rw [hx k (by omega)] at e10
    subst e10
    refine ⟨fun z => ?_, fun z => ?_⟩
    · have e : sd x n (k + 1) = sd x n k := if_pos z
      rw [e, if_pos z] at ih
      rw [nI_1]
      exact ih
    · have e : sd x n (k + 1) = _ := if_neg z
      rw [e, if_neg z] at ih
      rintro v15 rfl v18 rfl v22 rfl
      rw [nI_1]
      exact ih
