/-! an hour of the reference -/
/-- places of the flat row that eating leaves -/
def Fx (k : Nat) : Prop := k < 9 ∨ (12 ≤ k ∧ k < 60) ∨ (60 ≤ k ∧ k < 300 ∧ k % 10 < 4) ∨ 300 ≤ k
theorem s_goes_off {σ : Nat → Int32} {l r k : Nat} {x : Int32} (hl : l < 24) (hr : r < 5) (h : Fx k) : s_goes σ l r x k = σ k := by
  unfold Fx at h
  unfold s_goes
  rw [if_neg (by omega), if_neg (by omega), if_neg (by omega), if_neg (by omega), if_neg (by omega)]
theorem s_eat_off {r k : Nat} (hr : r < 5) (h : Fx k) : ∀ {n i : Nat} {e : Int32} {σ : Nat → Int32}, i + n ≤ 24 → s_eat r n i e σ k = σ k
  | 0, _, _, _, _ => rfl
  | n + 1, i, e, σ, hi => by
    unfold s_eat
    split
    · rfl
    · rw [s_eat_off hr h (by omega), s_goes_off (by omega) hr h]
theorem s_rings_off {nl k : Nat} {p : Nat → Int32} (hnl : nl ≤ 24) (h : Fx k) : ∀ {n r : Nat} {σ : Nat → Int32}, r + n ≤ 5 → s_rings nl p n r σ k = σ k
  | 0, _, _, _ => rfl
  | n + 1, r, σ, hr => by
    unfold s_rings
    rw [s_rings_off hnl h (by omega), s_eat_off (by omega) h (by omega)]
theorem LB_cong {σ τ : Nat → Int32} {nl : Nat} (hnl : nl ≤ 24) (h : ∀ k, Fx k → τ k = σ k) (hb : LB σ nl) : LB τ nl := by
  intro l hl
  obtain ⟨⟨b, h1, h2⟩, h3⟩ := hb l hl
  refine ⟨⟨b, h1, ?_⟩, ?_⟩
  · rw [h _ (by unfold Fx; omega)]
    exact h2
  · rw [h _ (by unfold Fx; omega)]
    exact h3
theorem bX11_oneHour_0 {G : Gl} {d : Nat} {X : Sh} {M : Mm} {Q : Mm → Prop} {a : Nat} (hS : Sh10 X a) (h : (∃ q1 : Mm → Prop, Cv G m_X11_partGas d [.ref a] X M q1 ∧ ∀ M3, q1 M3 → Wv G m_X11_oneHour (d + 1) 6 [(0, .ref a), (1, .int 0)] [] X M3 Q)) : Wv G m_X11_oneHour (d + 1) 0 [(0, .ref a)] [] X M Q := by
  refine wp_aload_n 0 dX11_oneHour_0 rfl rfl ?_
  obtain ⟨q1, o2, h⟩ := h
  refine wp_cvv dX11_oneHour_1 ck_RX11_187 (sh10_K hS) (as := []) rfl rfl (Nat.le_of_ble_eq_true rfl) o2 (fun M3 o4 => ?_)
  replace h := h M3 o4
  refine wp_iconst (v := 0) dX11_oneHour_4 rfl ?_
  refine wp_istore_n (lo2 := [(1, .int _), (0, .ref _)]) dX11_oneHour_5 rfl (by decide) rfl ?_
  exact Wp.sub [1, 0] rfl h
theorem bX11_oneHour_6 {G : Gl} {d : Nat} {X : Sh} {M : Mm} {Q : Mm → Prop} {a : Nat} {x1 : Int32} (hS : Sh10 X a) (h : ((5 ≤ x1 → Wv G m_X11_oneHour (d + 1) 89 [(0, .ref a), (1, .int 0), (2, .int (-1)), (3, .int 0)] [] X M Q) ∧ (¬ (5 ≤ x1) → (∃ j2 : Nat, x1 = nI j2 ∧ j2 < 5 ∧ (∀ v5 : Int32, v5 = (((mI M (a + 13) j2) / 4) + 1) → Wv G m_X11_oneHour (d + 1) 24 [(0, .ref a), (1, .int x1), (2, .int v5), (3, .int 0)] [] X M Q))))) : Wv G m_X11_oneHour (d + 1) 6 [(0, .ref a), (1, .int x1)] [] X M Q := by
  refine wp_iload_n 1 dX11_oneHour_6 rfl rfl ?_
  refine wp_iconst (v := 5) dX11_oneHour_7 rfl ?_
  refine wp_icmp_ge (tgt := 83) dX11_oneHour_8 (by decide) (fun c1 => ?_) (fun c1 => ?_)
  · replace h := h.1 c1
    refine wp_iconst (v := 0) dX11_oneHour_83 rfl ?_
    refine wp_istore_n (lo2 := [(1, .int _), (0, .ref _)]) dX11_oneHour_84 rfl (by decide) rfl ?_
    refine wp_iconst (v := (-1)) dX11_oneHour_85 rfl ?_
    refine wp_istore_n (lo2 := [(2, .int _), (1, .int _), (0, .ref _)]) dX11_oneHour_86 rfl (by decide) rfl ?_
    refine wp_iconst (v := 0) dX11_oneHour_87 rfl ?_
    refine wp_istore_n (lo2 := [(3, .int _), (2, .int _), (1, .int _), (0, .ref _)]) dX11_oneHour_88 rfl (by decide) rfl ?_
    exact Wp.sub [3, 2, 1, 0] rfl h
  · replace h := h.2 c1
    refine wp_aload_n 0 dX11_oneHour_11 rfl rfl ?_
    refine wp_getR dX11_oneHour_12 fl_RX11_47 rfl (sh10_K hS) (sh10_F_parts hS) ?_
    refine wp_iload_n 1 dX11_oneHour_15 rfl rfl ?_
    obtain ⟨j2, o3, o4, h⟩ := h
    refine wp_iald (n := 5) dX11_oneHour_16 (sh10_K_parts hS) (sh10_N_parts hS) (by decide) o3 o4 ?_
    refine wp_iconst (v := 4) dX11_oneHour_17 rfl ?_
    refine wp_idiv dX11_oneHour_18 (by decide) ?_
    refine wp_iconst (v := 1) dX11_oneHour_19 rfl ?_
    refine wp_iadd dX11_oneHour_20 ?_
    refine wp_topi (fun v5 ev5 => ?_)
    replace h := h v5 ev5
    refine wp_istore_n (lo2 := [(2, .int _), (0, .ref _), (1, .int _)]) dX11_oneHour_21 rfl (by decide) rfl ?_
    refine wp_iconst (v := 0) dX11_oneHour_22 rfl ?_
    refine wp_istore_n (lo2 := [(3, .int _), (2, .int _), (0, .ref _), (1, .int _)]) dX11_oneHour_23 rfl (by decide) rfl ?_
    exact Wp.sub [2, 3, 1, 0] rfl h
theorem bX11_oneHour_89 {G : Gl} {d : Nat} {X : Sh} {M : Mm} {Q : Mm → Prop} {a : Nat} {x1 : Int32} {x2 : Int32} {x3 : Int32} (hS : Sh10 X a) (h : (((mI M (a + 1) 1) ≤ x3 → (∀ M2 : Mm, M2 = sI M a 17 x2 → (∀ M3 : Mm, M3 = sI M2 (a + 1) 1 x1 → (∀ M4 : Mm, M4 = sI M3 (a + 1) 5 ((mI M3 (a + 1) 5) + 1) → Q M4)))) ∧ (¬ ((mI M (a + 1) 1) ≤ x3) → (∃ q5 : Mm → Int32 → Prop, Cn G m_X11_bulkOfLayer d [.ref a, .int x3] X M q5 ∧ ∀ M7 r8, q5 M7 r8 → ((r8 ≤ 0 → Wv G m_X11_oneHour (d + 1) 89 [(0, .ref a), (1, .int x1), (2, .int x2), (3, .int (x3 + 1))] [] X M7 Q) ∧ (¬ (r8 ≤ 0) → (∀ v13 : Int32, v13 = (if x3 = (mI M7 a 17) then x1 else x2) → Wv G m_X11_oneHour (d + 1) 124 [(0, .ref a), (1, .int x1), (2, .int v13), (3, .int x3), (4, .int 0)] [] X M7 Q))))))) : Wv G m_X11_oneHour (d + 1) 89 [(0, .ref a), (1, .int x1), (2, .int x2), (3, .int x3)] [] X M Q := by
  refine wp_iload_n 3 dX11_oneHour_89 rfl rfl ?_
  refine wp_aload_n 0 dX11_oneHour_90 rfl rfl ?_
  refine wp_getR dX11_oneHour_91 fl_RX11_7 rfl (sh10_K hS) (sh10_F_s hS) ?_
  refine wp_iconst (v := 1) dX11_oneHour_94 rfl ?_
  refine wp_iald (n := 2950) dX11_oneHour_95 (sh10_K_s hS) (sh10_N_s hS) (by decide) rfl (by decide) ?_
  refine wp_icmp_ge (tgt := 172) dX11_oneHour_96 (by decide) (fun c1 => ?_) (fun c1 => ?_)
  · replace h := h.1 c1
    refine wp_aload_n 0 dX11_oneHour_172 rfl rfl ?_
    refine wp_iload_n 2 dX11_oneHour_173 rfl rfl ?_
    refine wp_putI dX11_oneHour_174 fp_RX11_197 rfl (sh10_K hS) ?_
    refine wp_nm (fun M2 eM2 => ?_)
    replace h := h M2 eM2
    refine wp_aload_n 0 dX11_oneHour_177 rfl rfl ?_
    refine wp_getR dX11_oneHour_178 fl_RX11_7 rfl (sh10_K hS) (sh10_F_s hS) ?_
    refine wp_iconst (v := 1) dX11_oneHour_181 rfl ?_
    refine wp_iload_n 1 dX11_oneHour_182 rfl rfl ?_
    refine wp_iast (n := 2950) dX11_oneHour_183 (sh10_K_s hS) (sh10_N_s hS) (by decide) rfl (by decide) ?_
    refine wp_nm (fun M3 eM3 => ?_)
    replace h := h M3 eM3
    refine wp_aload_n 0 dX11_oneHour_184 rfl rfl ?_
    refine wp_getR dX11_oneHour_185 fl_RX11_7 rfl (sh10_K hS) (sh10_F_s hS) ?_
    refine wp_iconst (v := 5) dX11_oneHour_188 rfl ?_
    refine wp_dup2_11 dX11_oneHour_189 rfl rfl ?_
    refine wp_iald (n := 2950) dX11_oneHour_190 (sh10_K_s hS) (sh10_N_s hS) (by decide) rfl (by decide) ?_
    refine wp_iconst (v := 1) dX11_oneHour_191 rfl ?_
    refine wp_iadd dX11_oneHour_192 ?_
    refine wp_iast (n := 2950) dX11_oneHour_193 (sh10_K_s hS) (sh10_N_s hS) (by decide) rfl (by decide) ?_
    refine wp_nm (fun M4 eM4 => ?_)
    replace h := h M4 eM4
    exact wv_ret dX11_oneHour_194 rfl h
  · replace h := h.2 c1
    refine wp_aload_n 0 dX11_oneHour_99 rfl rfl ?_
    refine wp_iload_n 3 dX11_oneHour_100 rfl rfl ?_
    obtain ⟨q5, o6, h⟩ := h
    refine wp_cvi dX11_oneHour_101 ck_RX11_160 (sh10_K hS) (as := [.int x3]) rfl rfl (Nat.le_of_ble_eq_true rfl) o6 (fun M7 r8 o9 => ?_)
    replace h := h M7 r8 o9
    refine wp_if_le (tgt := 166) dX11_oneHour_104 (by decide) (fun c10 => ?_) (fun c10 => ?_)
    · replace h := h.1 c10
      refine wp_iinc (v := x3 + 1) (lo2 := [(3, .int _), (0, .ref _), (1, .int _), (2, .int _)]) dX11_oneHour_166 (q := 3) rfl rfl (by decide) rfl ?_
      refine wp_goto (tgt := 89) dX11_oneHour_169 (by decide) ?_
      exact Wp.sub [1, 2, 3, 0] rfl h
    · replace h := h.2 c10
      refine wp_iload_n 3 dX11_oneHour_107 rfl rfl ?_
      refine wp_aload_n 0 dX11_oneHour_108 rfl rfl ?_
      refine wp_getI dX11_oneHour_109 fl_RX11_197 rfl (sh10_K hS) ?_
      have K12 : Wp G m_X11_oneHour (d + 1) 0 0 0 0 120 [(0, .ref a), (1, .int x1), (2, .int x2), (3, .int x3)] [.int ((if x3 = (mI M7 a 17) then x1 else x2))] X M7 (fun X2 M2 v => X2 = X ∧ v = none ∧ Q M2) := by
        refine wp_topi (fun v13 ev13 => ?_)
        replace h := h v13 ev13
        refine wp_istore_n (lo2 := [(2, .int _), (0, .ref _), (1, .int _), (3, .int _)]) dX11_oneHour_120 rfl (by decide) rfl ?_
        refine wp_iconst (v := 0) dX11_oneHour_121 rfl ?_
        refine wp_istore (lo2 := [(4, .int _), (2, .int _), (0, .ref _), (1, .int _), (3, .int _)]) dX11_oneHour_122 (by decide) rfl ?_
        exact Wp.sub [2, 3, 1, 4, 0] rfl h
      refine wp_icmp_ne (tgt := 119) dX11_oneHour_112 (by decide) (fun c11 => ?_) (fun c11 => ?_)
      · refine wp_iload_n 2 dX11_oneHour_119 rfl rfl ?_
        rw [if_neg c11] at K12
        exact K12
      · refine wp_iload_n 1 dX11_oneHour_115 rfl rfl ?_
        refine wp_goto (tgt := 120) dX11_oneHour_116 (by decide) ?_
        rw [if_pos c11] at K12
        exact K12
theorem bX11_oneHour_24 {G : Gl} {d : Nat} {X : Sh} {M : Mm} {Q : Mm → Prop} {a : Nat} {x1 : Int32} {x2 : Int32} {x3 : Int32} (hS : Sh10 X a) (h : (((mI M (a + 1) 1) ≤ x3 → Wv G m_X11_oneHour (d + 1) 6 [(0, .ref a), (1, .int (x1 + 1))] [] X M Q) ∧ (¬ ((mI M (a + 1) 1) ≤ x3) → ((x2 ≤ 0 → Wv G m_X11_oneHour (d + 1) 6 [(0, .ref a), (1, .int (x1 + 1))] [] X M Q) ∧ (¬ (x2 ≤ 0) → (∃ j3 : Nat, (((60 + 10 * x3) + 5) + x1) = nI j3 ∧ j3 < 2950 ∧ (∀ v6 : Int32, v6 = (if (mI M (a + 1) j3) ≤ x2 then (mI M (a + 1) j3) else x2) → (∃ q7 : Mm → Prop, Cv G m_X11_goes d [.ref a, .int x3, .int x1, .int v6] X M q7 ∧ ∀ M9, q7 M9 → (∀ v11 : Int32, v11 = (x2 - v6) → Wv G m_X11_oneHour (d + 1) 24 [(0, .ref a), (1, .int x1), (2, .int v11), (3, .int (x3 + 1))] [] X M9 Q))))))))) : Wv G m_X11_oneHour (d + 1) 24 [(0, .ref a), (1, .int x1), (2, .int x2), (3, .int x3)] [] X M Q := by
  refine wp_iload_n 3 dX11_oneHour_24 rfl rfl ?_
  refine wp_aload_n 0 dX11_oneHour_25 rfl rfl ?_
  refine wp_getR dX11_oneHour_26 fl_RX11_7 rfl (sh10_K hS) (sh10_F_s hS) ?_
  refine wp_iconst (v := 1) dX11_oneHour_29 rfl ?_
  refine wp_iald (n := 2950) dX11_oneHour_30 (sh10_K_s hS) (sh10_N_s hS) (by decide) rfl (by decide) ?_
  refine wp_icmp_ge (tgt := 77) dX11_oneHour_31 (by decide) (fun c1 => ?_) (fun c1 => ?_)
  · replace h := h.1 c1
    refine wp_iinc (v := x1 + 1) (lo2 := [(1, .int _), (0, .ref _), (2, .int _), (3, .int _)]) dX11_oneHour_77 (q := 1) rfl rfl (by decide) rfl ?_
    refine wp_goto (tgt := 6) dX11_oneHour_80 (by decide) ?_
    exact Wp.sub [1, 0] rfl h
  · replace h := h.2 c1
    refine wp_iload_n 2 dX11_oneHour_34 rfl rfl ?_
    refine wp_if_le (tgt := 77) dX11_oneHour_35 (by decide) (fun c2 => ?_) (fun c2 => ?_)
    · replace h := h.1 c2
      refine wp_iinc (v := x1 + 1) (lo2 := [(1, .int _), (0, .ref _), (2, .int _), (3, .int _)]) dX11_oneHour_77 (q := 1) rfl rfl (by decide) rfl ?_
      refine wp_goto (tgt := 6) dX11_oneHour_80 (by decide) ?_
      exact Wp.sub [1, 0] rfl h
    · replace h := h.2 c2
      refine wp_iload_n 2 dX11_oneHour_38 rfl rfl ?_
      refine wp_aload_n 0 dX11_oneHour_39 rfl rfl ?_
      refine wp_getR dX11_oneHour_40 fl_RX11_7 rfl (sh10_K hS) (sh10_F_s hS) ?_
      refine wp_aload_n 0 dX11_oneHour_43 rfl rfl ?_
      refine wp_iload_n 3 dX11_oneHour_44 rfl rfl ?_
      refine wp_cvip dX11_oneHour_45 ck_RX11_134 (sh10_K hS) (as := [.int x3]) rfl rfl (Nat.le_of_ble_eq_true rfl) (cp_X11_layerAt G d X M a x3 hS) ?_
      refine wp_iconst (v := 5) dX11_oneHour_48 rfl ?_
      refine wp_iadd dX11_oneHour_49 ?_
      refine wp_iload_n 1 dX11_oneHour_50 rfl rfl ?_
      refine wp_iadd dX11_oneHour_51 ?_
      obtain ⟨j3, o4, o5, h⟩ := h
      refine wp_iald (n := 2950) dX11_oneHour_52 (sh10_K_s hS) (sh10_N_s hS) (by decide) o4 o5 ?_
      refine wp_csip dX11_oneHour_53 ck_RX11_190 rfl (as := [.int x2, .int ((mI M (a + 1) j3))]) rfl rfl (Nat.le_of_ble_eq_true rfl) (cp_X11_least G d X M x2 (mI M (a + 1) j3)) ?_
      refine wp_topi (fun v6 ev6 => ?_)
      replace h := h v6 ev6
      refine wp_istore (lo2 := [(4, .int _), (0, .ref _), (1, .int _), (2, .int _), (3, .int _)]) dX11_oneHour_56 (by decide) rfl ?_
      refine wp_aload_n 1 dX11_oneHour_58 rfl rfl ?_
      refine wp_iload_n 4 dX11_oneHour_59 rfl rfl ?_
      refine wp_iload_n 2 dX11_oneHour_60 rfl rfl ?_
      refine wp_iload 0 dX11_oneHour_61 rfl ?_
      obtain ⟨q7, o8, h⟩ := h
      refine wp_cvv dX11_oneHour_63 ck_RX11_193 (sh10_K hS) (as := [.int x3, .int x1, .int v6]) rfl rfl (Nat.le_of_ble_eq_true rfl) o8 (fun M9 o10 => ?_)
      replace h := h M9 o10
      refine wp_iload_n 3 dX11_oneHour_66 rfl rfl ?_
      refine wp_iload 0 dX11_oneHour_67 rfl ?_
      refine wp_isub dX11_oneHour_69 ?_
      refine wp_topi (fun v11 ev11 => ?_)
      replace h := h v11 ev11
      refine wp_istore_n (lo2 := [(2, .int _), (4, .int _), (0, .ref _), (1, .int _), (3, .int _)]) dX11_oneHour_70 rfl (by decide) rfl ?_
      refine wp_iinc (v := x3 + 1) (lo2 := [(3, .int _), (2, .int _), (4, .int _), (0, .ref _), (1, .int _)]) dX11_oneHour_71 (q := 4) rfl rfl (by decide) rfl ?_
      refine wp_goto (tgt := 24) dX11_oneHour_74 (by decide) ?_
      exact Wp.sub [3, 4, 1, 0] rfl h
theorem bX11_oneHour_124 {G : Gl} {d : Nat} {X : Sh} {M : Mm} {Q : Mm → Prop} {a : Nat} {x1 : Int32} {x2 : Int32} {x3 : Int32} {x4 : Int32} (hS : Sh10 X a) (h : ((10 ≤ x4 → Wv G m_X11_oneHour (d + 1) 89 [(0, .ref a), (1, .int (x1 + 1)), (2, .int x2), (3, .int (x3 + 1))] [] X M Q) ∧ (¬ (10 ≤ x4) → (∃ j2 : Nat, ((60 + 10 * x3) + x4) = nI j2 ∧ j2 < 2950 ∧ (∃ j5 : Nat, ((60 + 10 * x1) + x4) = nI j5 ∧ j5 < 2950 ∧ (∀ M8 : Mm, M8 = sI M (a + 1) j5 (mI M (a + 1) j2) → Wv G m_X11_oneHour (d + 1) 124 [(0, .ref a), (1, .int x1), (2, .int x2), (3, .int x3), (4, .int (x4 + 1))] [] X M8 Q)))))) : Wv G m_X11_oneHour (d + 1) 124 [(0, .ref a), (1, .int x1), (2, .int x2), (3, .int x3), (4, .int x4)] [] X M Q := by
  refine wp_iload 4 dX11_oneHour_124 rfl ?_
  refine wp_bipush (v := 10) dX11_oneHour_126 rfl ?_
  refine wp_icmp_ge (tgt := 163) dX11_oneHour_128 (by decide) (fun c1 => ?_) (fun c1 => ?_)
  · replace h := h.1 c1
    refine wp_iinc (v := x1 + 1) (lo2 := [(1, .int _), (0, .ref _), (2, .int _), (3, .int _), (4, .int _)]) dX11_oneHour_163 (q := 1) rfl rfl (by decide) rfl ?_
    refine wp_iinc (v := x3 + 1) (lo2 := [(3, .int _), (1, .int _), (0, .ref _), (2, .int _), (4, .int _)]) dX11_oneHour_166 (q := 3) rfl rfl (by decide) rfl ?_
    refine wp_goto (tgt := 89) dX11_oneHour_169 (by decide) ?_
    exact Wp.sub [2, 1, 3, 0] rfl h
  · replace h := h.2 c1
    refine wp_aload_n 0 dX11_oneHour_131 rfl rfl ?_
    refine wp_getR dX11_oneHour_132 fl_RX11_7 rfl (sh10_K hS) (sh10_F_s hS) ?_
    refine wp_aload_n 0 dX11_oneHour_135 rfl rfl ?_
    refine wp_iload_n 1 dX11_oneHour_136 rfl rfl ?_
    refine wp_cvip dX11_oneHour_137 ck_RX11_134 (sh10_K hS) (as := [.int x1]) rfl rfl (Nat.le_of_ble_eq_true rfl) (cp_X11_layerAt G d X M a x1 hS) ?_
    refine wp_iload 4 dX11_oneHour_140 rfl ?_
    refine wp_iadd dX11_oneHour_142 ?_
    refine wp_aload_n 0 dX11_oneHour_143 rfl rfl ?_
    refine wp_getR dX11_oneHour_144 fl_RX11_7 rfl (sh10_K hS) (sh10_F_s hS) ?_
    refine wp_aload_n 0 dX11_oneHour_147 rfl rfl ?_
    refine wp_iload_n 3 dX11_oneHour_148 rfl rfl ?_
    refine wp_cvip dX11_oneHour_149 ck_RX11_134 (sh10_K hS) (as := [.int x3]) rfl rfl (Nat.le_of_ble_eq_true rfl) (cp_X11_layerAt G d X M a x3 hS) ?_
    refine wp_iload 4 dX11_oneHour_152 rfl ?_
    refine wp_iadd dX11_oneHour_154 ?_
    obtain ⟨j2, o3, o4, h⟩ := h
    refine wp_iald (n := 2950) dX11_oneHour_155 (sh10_K_s hS) (sh10_N_s hS) (by decide) o3 o4 ?_
    obtain ⟨j5, o6, o7, h⟩ := h
    refine wp_iast (n := 2950) dX11_oneHour_156 (sh10_K_s hS) (sh10_N_s hS) (by decide) o6 o7 ?_
    refine wp_nm (fun M8 eM8 => ?_)
    replace h := h M8 eM8
    refine wp_iinc (v := x4 + 1) (lo2 := [(4, .int _), (0, .ref _), (1, .int _), (2, .int _), (3, .int _)]) dX11_oneHour_157 (q := 4) rfl rfl (by decide) rfl ?_
    refine wp_goto (tgt := 124) dX11_oneHour_160 (by decide) ?_
    exact Wp.sub [1, 2, 3, 4, 0] rfl h
theorem cl_hour_24 (G : Gl) (d : Nat) (hd : 3 ≤ d) {X : Sh} {a nl r : Nat} {Q : Mm → Prop} (hS : Sh10 X a) (hnl : nl ≤ 24) (hr : r < 5) :
    ∀ (n i : Nat) (e : Int32) (M : Mm), i + n = nl → mI M (a + 1) 1 = nI nl → LB (mI M (a + 1)) nl →
      (∀ M2, mI M2 (a + 1) = s_eat r n i e (mI M (a + 1)) → (∀ b, b ≠ a + 1 → mI M2 b = mI M b) → mR M2 = mR M → Wv G m_X11_oneHour (d + 1) 6 [(0, .ref a), (1, .int (nI r + 1))] [] X M2 Q) →
      Wv G m_X11_oneHour (d + 1) 24 [(0, .ref a), (1, .int (nI r)), (2, .int e), (3, .int (nI i))] [] X M Q
  | 0, i, e, M, h, hn, hb, hk => by
    have hi : i = nl := h
    subst hi
    exact bX11_oneHour_24 hS ⟨fun _ => hk M rfl (fun _ _ => rfl) rfl, fun h => absurd (by rw [hn]; exact Int32.le_refl _) h⟩
  | n + 1, i, e, M, h, hn, hb, hk => by
    refine bX11_oneHour_24 hS ⟨fun h2 => ?_, fun _ => ⟨fun h2 => ?_, fun h2 => ⟨65 + 10 * i + r, (by first | rfl | (simp only [n_lit, nI_add, pk_mul]; done) | (simp only [n_lit, nI_add, pk_mul]; exact congrArg nI (by omega))), by omega, ?_⟩⟩⟩
    · rw [hn] at h2
      have := (nI_leI (by omega) (by omega)).mp h2
      omega
    · refine hk M ?_ (fun _ _ => rfl) rfl
      show mI M (a + 1) = if e ≤ 0 then mI M (a + 1) else _
      rw [if_pos h2]
    · rintro v6 rfl
      obtain ⟨⟨b, hb1, hb2⟩, hb3⟩ := hb i (by omega)
      refine ⟨_, cp_X11_goes G d hd X M a i r b _ hS (by omega) hr hb1 hb2 hb3, ?_⟩
      intro M9 h9
      rintro v11 rfl
      rw [nI_1]
      have hsame : ∀ k, Fx k → mI M9 (a + 1) k = mI M (a + 1) k := fun k hk => by
        rw [h9.1]
        exact s_goes_off (by omega) hr hk
      refine cl_hour_24 G d hd hS hnl hr n (i + 1) _ M9 (by omega) (by rw [hsame 1 (by unfold Fx; omega)]; exact hn) (LB_cong hnl hsame hb) (fun M2 g1 g2 g3 => hk M2 ?_ (fun b hb => (g2 b hb).trans (h9.2.1 b hb)) (g3.trans h9.2.2))
      rw [g1, h9.1]
      show _ = if e ≤ 0 then mI M (a + 1) else _
      rw [if_neg h2]
      rfl
theorem cl_hour_6 (G : Gl) (d : Nat) (hd : 3 ≤ d) {X : Sh} {a nl : Nat} {p : Nat → Int32} {Q : Mm → Prop} (hS : Sh10 X a) (hnl : nl ≤ 24) :
    ∀ (n r : Nat) (M : Mm), r + n = 5 → mI M (a + 1) 1 = nI nl → LB (mI M (a + 1)) nl → (∀ r, r < 5 → mI M (a + 13) r = p r) →
      (∀ M2, mI M2 (a + 1) = s_rings nl p n r (mI M (a + 1)) → (∀ b, b ≠ a + 1 → mI M2 b = mI M b) → mR M2 = mR M → Wv G m_X11_oneHour (d + 1) 89 [(0, .ref a), (1, .int 0), (2, .int (-1)), (3, .int 0)] [] X M2 Q) →
      Wv G m_X11_oneHour (d + 1) 6 [(0, .ref a), (1, .int (nI r))] [] X M Q
  | 0, r, M, h, hn, hb, hp, hk => by
    have hi : r = 5 := h
    subst hi
    exact bX11_oneHour_6 hS ⟨fun _ => hk M rfl (fun _ _ => rfl) rfl, fun h => absurd (by decide) h⟩
  | n + 1, r, M, h, hn, hb, hp, hk => by
    refine bX11_oneHour_6 hS ⟨fun h2 => absurd h2 (n5 (by omega)), fun _ => ⟨r, rfl, by omega, ?_⟩⟩
    rintro v5 rfl
    rw [hp r (by omega)]
    refine cl_hour_24 G d hd hS hnl (by omega) nl 0 _ M (by omega) hn hb (fun M2 g1 g2 g3 => ?_)
    rw [nI_1]
    have hsame : ∀ k, Fx k → mI M2 (a + 1) k = mI M (a + 1) k := fun k hk => by
      rw [g1]
      exact s_eat_off (by omega) hk (by omega)
    refine cl_hour_6 G d hd (p := p) hS hnl n (r + 1) M2 (by omega) (by rw [hsame 1 (by unfold Fx; omega)]; exact hn) (LB_cong hnl hsame hb) (fun r hr => by rw [g2 _ (by omega)]; exact hp r hr) (fun M3 k1 k2 k3 => hk M3 ?_ (fun b hb => (k2 b hb).trans (g2 b hb)) (k3.trans g3))
    rw [k1, g1]
    rfl
theorem cl_hour_124 (G : Gl) (d : Nat) {X : Sh} {a l to : Nat} {f : Int32} {Q : Mm → Prop} (hS : Sh10 X a) (hl : l < 24) (hto : to ≤ l) (M0 : Mm)
    (hk : ∀ M2, mI M2 (a + 1) = s_cpl (mI M0 (a + 1)) l to → (∀ b, b ≠ a + 1 → mI M2 b = mI M0 b) → mR M2 = mR M0 → Wv G m_X11_oneHour (d + 1) 89 [(0, .ref a), (1, .int (nI to + 1)), (2, .int f), (3, .int (nI l + 1))] [] X M2 Q) :
    ∀ (n i : Nat) (M : Mm), i + n = 10 → mI M (a + 1) = (fun k => if 60 + 10 * to ≤ k ∧ k < 60 + 10 * to + i then mI M0 (a + 1) (60 + 10 * l + (k - (60 + 10 * to))) else mI M0 (a + 1) k) → (∀ b, b ≠ a + 1 → mI M b = mI M0 b) → mR M = mR M0 →
      Wv G m_X11_oneHour (d + 1) 124 [(0, .ref a), (1, .int (nI to)), (2, .int f), (3, .int (nI l)), (4, .int (nI i))] [] X M Q
  | 0, i, M, h, hs, h1, h2 => by
    have hi : i = 10 := h
    subst hi
    refine bX11_oneHour_124 hS ⟨fun _ => hk M ?_ h1 h2, fun h => absurd (by decide) h⟩
    rw [hs]
    funext k
    unfold s_cpl
    by_cases e : 60 + 10 * to ≤ k ∧ k < 70 + 10 * to
    · rw [if_pos e, if_pos (by omega)]
    · rw [if_neg e, if_neg (by omega)]
  | n + 1, i, M, h, hs, h1, h2 => by
    refine bX11_oneHour_124 hS ⟨fun h2 => ?_, fun _ => ⟨60 + 10 * l + i, (by first | rfl | (simp only [n_lit, nI_add, pk_mul]; done) | (simp only [n_lit, nI_add, pk_mul]; exact congrArg nI (by omega))), by omega, 60 + 10 * to + i, (by first | rfl | (simp only [n_lit, nI_add, pk_mul]; done) | (simp only [n_lit, nI_add, pk_mul]; exact congrArg nI (by omega))), by omega, ?_⟩⟩
    · have := (nI_leI (a := 10) (by omega) (by omega)).mp h2
      omega
    rintro M8 e8
    rw [nI_1 i]
    refine cl_hour_124 G d hS hl hto M0 hk n (i + 1) M8 (by omega) ?_ (fun b hb => ?_) ?_
    · rw [e8, mI_sI, up2_row, hs]
      funext k
      simp only [upd]
      by_cases e : k = 60 + 10 * to + i
      · subst e
        have e2 : ¬ (60 + 10 * to ≤ 60 + 10 * l + i ∧ 60 + 10 * l + i < 60 + 10 * to + i) := by omega
        rw [if_pos rfl, if_neg e2, if_pos (by omega)]
        congr 1
        omega
      · rw [if_neg e]
        by_cases e2 : 60 + 10 * to ≤ k ∧ k < 60 + 10 * to + i
        · rw [if_pos e2, if_pos (by omega)]
        · rw [if_neg e2, if_neg (by omega)]
    · rw [e8, mI_sI, up2_off _ _ _ hb]
      exact h1 b hb
    · rw [e8]
      exact h2
theorem s_drop_cons_skip {fol f : Int32} {n l to : Nat} {σ : Nat → Int32} (h : s_bulkOf σ l ≤ 0) : s_drop fol (n + 1) l to f σ = s_drop fol n (l + 1) to f σ := by
  rw [s_drop, if_pos h]
theorem s_drop_cons_keep {fol f : Int32} {n l to : Nat} {σ : Nat → Int32} (h : ¬ s_bulkOf σ l ≤ 0) : s_drop fol (n + 1) l to f σ = s_drop fol n (l + 1) (to + 1) (if nI l = fol then nI to else f) (s_cpl σ l to) := by
  rw [s_drop, if_neg h]
theorem cl_hour_89 (G : Gl) (d : Nat) (hd : 1 ≤ d) {X : Sh} {a nl : Nat} {fol : Int32} {Q : Mm → Prop} (hS : Sh10 X a) (hnl : nl ≤ 24) :
    ∀ (n l to : Nat) (f : Int32) (M : Mm), l + n = nl → to ≤ l → mI M (a + 1) 1 = nI nl → mI M a 17 = fol →
      (∀ M2, mI M2 (a + 1) = upd (upd (s_drop fol n l to f (mI M (a + 1))).2.2 1 (nI (s_drop fol n l to f (mI M (a + 1))).1)) 5 ((s_drop fol n l to f (mI M (a + 1))).2.2 5 + 1) → mI M2 a = upd (mI M a) 17 (s_drop fol n l to f (mI M (a + 1))).2.1 → (∀ b, b ≠ a → b ≠ a + 1 → mI M2 b = mI M b) → mR M2 = mR M → Q M2) →
      Wv G m_X11_oneHour (d + 1) 89 [(0, .ref a), (1, .int (nI to)), (2, .int f), (3, .int (nI l))] [] X M Q
  | 0, l, to, f, M, h, hto, hn, hf, hq => by
    have hi : l = nl := h
    subst hi
    refine bX11_oneHour_89 hS ⟨fun _ => ?_, fun h => absurd (by rw [hn]; exact Int32.le_refl _) h⟩
    intro M2 e2 M3 e3 M4 e4
    refine hq M4 ?_ ?_ (fun b h1 h2 => ?_) ?_
    · rw [e4, mI_sI, up2_row, e3, mI_sI, up2_row, e2, mI_sI, up2_off _ _ _ (show a + 1 ≠ a by omega)]
      rfl
    · rw [e4, mI_sI, up2_off _ _ _ (show a ≠ a + 1 by omega), e3, mI_sI, up2_off _ _ _ (show a ≠ a + 1 by omega), e2, mI_sI, up2_row]
      rfl
    · rw [e4, mI_sI, up2_off _ _ _ h2, e3, mI_sI, up2_off _ _ _ h2, e2, mI_sI, up2_off _ _ _ h1]
    · rw [e4, e3, e2]
      rfl
  | n + 1, l, to, f, M, h, hto, hn, hf, hq => by
    refine bX11_oneHour_89 hS ⟨fun h2 => ?_, fun _ => ⟨_, cp_X11_bulkOfLayer G d hd X M a l hS (by omega), ?_⟩⟩
    · rw [hn] at h2
      have := (nI_leI (by omega) (by omega)).mp h2
      omega
    rintro M7 r8 ⟨e7, e8⟩
    have e7 := e7.symm
    subst e7
    subst e8
    refine ⟨fun h2 => ?_, fun h2 => ?_⟩
    · rw [nI_1]
      refine cl_hour_89 G d hd hS hnl n (l + 1) to f M (by omega) (by omega) hn hf ?_
      rw [s_drop_cons_skip h2] at hq
      exact hq
    · rintro v13 rfl
      rw [hf]
      refine cl_hour_124 G d hS (by omega) hto M (fun M2 g1 g2 g3 => ?_) 10 0 M rfl ?_ (fun _ _ => rfl) rfl
      · rw [nI_1, nI_1]
        refine cl_hour_89 G d hd (fol := fol) hS hnl n (l + 1) (to + 1) _ M2 (by omega) (by omega) ?_ (by rw [g2 _ (by omega)]; exact hf) ?_
        · rw [g1]
          show (if 60 + 10 * to ≤ 1 ∧ 1 < 70 + 10 * to then _ else mI M (a + 1) 1) = _
          rw [if_neg (by omega)]
          exact hn
        · rw [s_drop_cons_keep h2] at hq
          intro M3 k1 k2 k3 k4
          refine hq M3 ?_ ?_ (fun b h1 h2 => (k3 b h1 h2).trans (g2 b h2)) (k4.trans g3)
          · rw [k1, g1]
          · rw [k2, g1, g2 _ (by omega)]
      · funext k
        rw [if_neg (by omega)]
/-- what an hour needs of the row -/
def HourOK (σ : Nat → Int32) (nl nx : Nat) : Prop := σ 1 = nI nl ∧ nl ≤ 24 ∧ σ 2 = nI nx ∧ nx ≤ 12 ∧ (∀ t, t < nx → σ (340 + 200 * t) = 6 → T_ok σ t) ∧ LB σ nl ∧ ∀ r, r < 5 → ¬ s_res σ nl r = 0
def s_hour (σ : Nat → Int32) (nl nx : Nat) (fol : Int32) : (Nat → Int32) × Int32 := s_pass σ nl (s_parts (s_gas σ nl nx) (s_wts σ nl)) fol
theorem s_eat_cong {r : Nat} {n i : Nat} {e : Int32} {σ τ : Nat → Int32} (h : σ = τ) : s_eat r n i e σ = s_eat r n i e τ := by rw [h]
theorem s_rings_cong {nl : Nat} {p p2 : Nat → Int32} : ∀ {n r : Nat} {σ : Nat → Int32}, (∀ k, r ≤ k → k < r + n → p k = p2 k) → s_rings nl p n r σ = s_rings nl p2 n r σ
  | 0, _, _, _ => rfl
  | n + 1, r, σ, h => by
    show s_rings nl p n (r + 1) (s_eat r nl 0 (p r / 4 + 1) σ) = s_rings nl p2 n (r + 1) (s_eat r nl 0 (p2 r / 4 + 1) σ)
    rw [h r (Nat.le_refl _) (by omega)]
    exact s_rings_cong (fun k h1 h2 => h k (by omega) (by omega))
theorem cp_X11_oneHour (G : Gl) (d : Nat) (hd : 6 ≤ d) (X : Sh) (M : Mm) (a nl nx : Nat) (hS : Sh10 X a) (hok : HourOK (mI M (a + 1)) nl nx) :
    Cv G m_X11_oneHour d [.ref a] X M (fun M2 => mI M2 (a + 1) = (s_hour (mI M (a + 1)) nl nx (mI M a 17)).1 ∧ mI M2 a = upd (mI M a) 17 (s_hour (mI M (a + 1)) nl nx (mI M a 17)).2 ∧ (∀ b, b ≠ a → b ≠ a + 1 → b ≠ a + 13 → b ≠ a + 18 → b ≠ a + 19 → mI M2 b = mI M b) ∧ mR M2 = mR M) := by
  obtain ⟨d, rfl⟩ : ∃ d1, d = d1 + 1 := ⟨d - 1, by omega⟩
  obtain ⟨hn, hnl, hx, hnx, hT, hb, hres⟩ := hok
  refine Cv.of (by decide) (Nat.le_of_ble_eq_true rfl) (bX11_oneHour_0 hS ⟨_, cp_X11_partGas G d (by omega) X M a nl nx hS hn hnl hx hnx hT hb hres, ?_⟩)
  rintro M3 ⟨hp, o3, oR⟩
  have k3 : mI M3 (a + 1) = mI M (a + 1) := o3 _ (by omega) (by omega) (by omega)
  have k0 : mI M3 a = mI M a := o3 _ (by omega) (by omega) (by omega)
  refine cl_hour_6 G d (by omega) hS hnl 5 0 M3 rfl (by rw [k3]; exact hn) (by rw [k3]; exact hb) hp (fun M4 g1 g2 g3 => ?_)
  have hsame : mI M4 (a + 1) 1 = nI nl := by
    rw [g1, k3, s_rings_off hnl (by unfold Fx; omega) (by omega)]
    exact hn
  refine cl_hour_89 G d (by omega) (fol := mI M a 17) hS hnl nl 0 0 (-1) M4 (by omega) (Nat.le_refl _) hsame (by rw [g2 _ (by omega), k0]) ?_
  intro M5 q1 q2 q3 q4
  refine ⟨?_, ?_, fun b b1 b2 b3 b4 b5 => ?_, q4.trans (g3.trans oR)⟩
  · rw [q1, g1, k3]
    rfl
  · rw [q2, g1, k3, g2 _ (by omega), k0]
    rfl
  · rw [q3 b b1 b2, g2 b b2, o3 b b3 b4 b5]
