/-! pour: ladles are filled -/
/-- the ladle that is ready first, of the first n -/
def s_first (ρ : Nat → Int32) : Nat → Nat
  | 0 => 0
  | n + 1 => if ρ (s_first ρ n) ≤ ρ n then s_first ρ n else n
theorem s_first_lt (ρ : Nat → Int32) : ∀ n, s_first ρ (n + 1) < n + 1
  | 0 => by
    have h : s_first ρ (0 + 1) = 0 := by
      show (if ρ (s_first ρ 0) ≤ ρ 0 then s_first ρ 0 else 0) = 0
      split <;> rfl
    omega
  | n + 1 => by
    have ih := s_first_lt ρ n
    show (if ρ (s_first ρ (n + 1)) ≤ ρ (n + 1) then s_first ρ (n + 1) else n + 1) < n + 1 + 1
    split <;> omega
theorem s_first_cong {ρ ρ2 : Nat → Int32} : ∀ n, (∀ k, k < n + 1 → ρ k = ρ2 k) → s_first ρ (n + 1) = s_first ρ2 (n + 1)
  | 0, h => by
    have h1 := s_first_lt ρ 0
    have h2 := s_first_lt ρ2 0
    omega
  | n + 1, h => by
    have ih := s_first_cong (ρ := ρ) (ρ2 := ρ2) n (fun k hk => h k (by omega))
    have hb := s_first_lt ρ2 n
    show (if ρ (s_first ρ (n + 1)) ≤ ρ (n + 1) then s_first ρ (n + 1) else n + 1) = (if ρ2 (s_first ρ2 (n + 1)) ≤ ρ2 (n + 1) then s_first ρ2 (n + 1) else n + 1)
    rw [ih, h (n + 1) (by omega), h (s_first ρ2 (n + 1)) (by omega)]
def pf_x (cap : Nat → Int32) (j : Nat) (left : Int32) : Int32 := if cap j ≤ left then cap j else left
def pf_b (ρ : Nat → Int32) (j : Nat) (time : Int32) : Int32 := if ρ j ≤ time then time else ρ j
/-- fillings: how much later, how many, when each ladle is ready -/
def pf (cap : Nat → Int32) (nd : Nat) (away : Int32) : Nat → Int32 → Int32 → Int32 → Nat → (Nat → Int32) → Int32 × Nat × (Nat → Int32)
  | 0, _, _, late, k, ρ => (late, k, ρ)
  | f + 1, left, time, late, k, ρ => if left ≤ 0 then (late, k, ρ) else
    pf cap nd away f (left - pf_x cap (s_first ρ nd) left) (pf_b ρ (s_first ρ nd) time + pf_x cap (s_first ρ nd) left) (late + (pf_b ρ (s_first ρ nd) time - time)) (k + 1) (upd ρ (s_first ρ nd) (pf_b ρ (s_first ρ nd) time + pf_x cap (s_first ρ nd) left + away))
theorem pf_cong {cap cap2 : Nat → Int32} {nd : Nat} {away : Int32} (hn : 0 < nd) (hc : ∀ i, i < nd → cap i = cap2 i) : ∀ (f : Nat) (left time late : Int32) (k : Nat) (ρ ρ2 : Nat → Int32), (∀ i, i < nd → ρ i = ρ2 i) → (pf cap nd away f left time late k ρ).1 = (pf cap2 nd away f left time late k ρ2).1 ∧ (pf cap nd away f left time late k ρ).2.1 = (pf cap2 nd away f left time late k ρ2).2.1 ∧ ∀ i, i < nd → (pf cap nd away f left time late k ρ).2.2 i = (pf cap2 nd away f left time late k ρ2).2.2 i
  | 0, _, _, _, _, _, _, h => ⟨rfl, rfl, h⟩
  | f + 1, left, time, late, k, ρ, ρ2, h => by
    obtain ⟨n, rfl⟩ : ∃ n, nd = n + 1 := ⟨nd - 1, by omega⟩
    have e : s_first ρ (n + 1) = s_first ρ2 (n + 1) := s_first_cong n h
    have hl := s_first_lt ρ2 n
    have ex : pf_x cap (s_first ρ (n + 1)) left = pf_x cap2 (s_first ρ2 (n + 1)) left := by
      unfold pf_x
      rw [e, hc _ hl]
    have eb : pf_b ρ (s_first ρ (n + 1)) time = pf_b ρ2 (s_first ρ2 (n + 1)) time := by
      unfold pf_b
      rw [e, h _ hl]
    by_cases h0 : left ≤ 0
    · have e1 : pf cap (n + 1) away (f + 1) left time late k ρ = (late, k, ρ) := if_pos h0
      have e2 : pf cap2 (n + 1) away (f + 1) left time late k ρ2 = (late, k, ρ2) := if_pos h0
      rw [e1, e2]
      exact ⟨rfl, rfl, h⟩
    · have e1 : pf cap (n + 1) away (f + 1) left time late k ρ = pf cap (n + 1) away f (left - pf_x cap (s_first ρ (n + 1)) left) (pf_b ρ (s_first ρ (n + 1)) time + pf_x cap (s_first ρ (n + 1)) left) (late + (pf_b ρ (s_first ρ (n + 1)) time - time)) (k + 1) (upd ρ (s_first ρ (n + 1)) (pf_b ρ (s_first ρ (n + 1)) time + pf_x cap (s_first ρ (n + 1)) left + away)) := if_neg h0
      have e2 : pf cap2 (n + 1) away (f + 1) left time late k ρ2 = pf cap2 (n + 1) away f (left - pf_x cap2 (s_first ρ2 (n + 1)) left) (pf_b ρ2 (s_first ρ2 (n + 1)) time + pf_x cap2 (s_first ρ2 (n + 1)) left) (late + (pf_b ρ2 (s_first ρ2 (n + 1)) time - time)) (k + 1) (upd ρ2 (s_first ρ2 (n + 1)) (pf_b ρ2 (s_first ρ2 (n + 1)) time + pf_x cap2 (s_first ρ2 (n + 1)) left + away)) := if_neg h0
      rw [e1, e2, ex, eb, e]
      refine pf_cong hn hc f _ _ _ _ _ _ (fun i hi => ?_)
      unfold upd
      split
      · rfl
      · exact h i hi
/-- each ladle holds one ton at least -/
def Caps (cap : Nat → Int32) (nd : Nat) : Prop := ∀ i, i < nd → ∃ c : Nat, 1 ≤ c ∧ c ≤ 999 ∧ cap i = nI c
theorem pf_x_nat {cap : Nat → Int32} {nd j L : Nat} (h : Caps cap nd) (hj : j < nd) (hL : 1 ≤ L) (hL2 : L ≤ 9999) : ∃ x : Nat, 1 ≤ x ∧ x ≤ L ∧ pf_x cap j (nI L) = nI x := by
  obtain ⟨c, h1, h2, h3⟩ := h j hj
  unfold pf_x
  rw [h3]
  by_cases q : nI c ≤ nI L
  · rw [if_pos q]
    exact ⟨c, h1, (nI_leI (by omega) (by omega)).mp q, rfl⟩
  · rw [if_neg q]
    exact ⟨L, hL, Nat.le_refl _, rfl⟩
theorem bX3_firstReady_0 {G : Gl} {d : Nat} {X : Sh} {M : Mm} {Q : Mm → Int32 → Prop} {a : Nat} (hS : Sh3 X a) (h : Wn G m_X3_firstReady d 4 [(0, .ref a), (1, .int 0), (2, .int 1)] [] X M Q) : Wn G m_X3_firstReady d 0 [(0, .ref a)] [] X M Q := by
  refine wp_iconst (v := 0) dX3_firstReady_0 rfl ?_
  refine wp_istore_n (lo2 := [(1, .int _), (0, .ref _)]) dX3_firstReady_1 rfl (by decide) rfl ?_
  refine wp_iconst (v := 1) dX3_firstReady_2 rfl ?_
  refine wp_istore_n (lo2 := [(2, .int _), (1, .int _), (0, .ref _)]) dX3_firstReady_3 rfl (by decide) rfl ?_
  exact Wp.sub [2, 1, 0] rfl h
theorem bX3_firstReady_4 {G : Gl} {d : Nat} {X : Sh} {M : Mm} {Q : Mm → Int32 → Prop} {a : Nat} {x1 : Int32} {x2 : Int32} (hS : Sh3 X a) (h : (((mI M a 2) ≤ x2 → Q M x1) ∧ (¬ ((mI M a 2) ≤ x2) → (∃ j2 : Nat, x2 = nI j2 ∧ j2 < 6 ∧ (∃ j5 : Nat, x1 = nI j5 ∧ j5 < 6 ∧ (((mI M (a + 2) j5) ≤ (mI M (a + 2) j2) → Wn G m_X3_firstReady d 4 [(0, .ref a), (1, .int x1), (2, .int (x2 + 1))] [] X M Q) ∧ (¬ ((mI M (a + 2) j5) ≤ (mI M (a + 2) j2)) → Wn G m_X3_firstReady d 4 [(0, .ref a), (1, .int x2), (2, .int (x2 + 1))] [] X M Q))))))) : Wn G m_X3_firstReady d 4 [(0, .ref a), (1, .int x1), (2, .int x2)] [] X M Q := by
  refine wp_iload_n 2 dX3_firstReady_4 rfl rfl ?_
  refine wp_aload_n 0 dX3_firstReady_5 rfl rfl ?_
  refine wp_getI dX3_firstReady_6 fl_RX3_18 rfl (sh3_K hS) ?_
  refine wp_icmp_ge (tgt := 35) dX3_firstReady_9 (by decide) (fun c1 => ?_) (fun c1 => ?_)
  · replace h := h.1 c1
    refine wp_iload_n 1 dX3_firstReady_35 rfl rfl ?_
    exact wn_iret dX3_firstReady_36 rfl h
  · replace h := h.2 c1
    refine wp_aload_n 0 dX3_firstReady_12 rfl rfl ?_
    refine wp_getR dX3_firstReady_13 fl_RX3_15 rfl (sh3_K hS) (sh3_F_ready hS) ?_
    refine wp_iload_n 2 dX3_firstReady_16 rfl rfl ?_
    obtain ⟨j2, o3, o4, h⟩ := h
    refine wp_iald (n := 6) dX3_firstReady_17 (sh3_K_ready hS) (sh3_N_ready hS) (by decide) o3 o4 ?_
    refine wp_aload_n 0 dX3_firstReady_18 rfl rfl ?_
    refine wp_getR dX3_firstReady_19 fl_RX3_15 rfl (sh3_K hS) (sh3_F_ready hS) ?_
    refine wp_iload_n 1 dX3_firstReady_22 rfl rfl ?_
    obtain ⟨j5, o6, o7, h⟩ := h
    refine wp_iald (n := 6) dX3_firstReady_23 (sh3_K_ready hS) (sh3_N_ready hS) (by decide) o6 o7 ?_
    refine wp_icmp_ge (tgt := 29) dX3_firstReady_24 (by decide) (fun c8 => ?_) (fun c8 => ?_)
    · replace h := h.1 c8
      refine wp_iinc (v := x2 + 1) (lo2 := [(2, .int _), (0, .ref _), (1, .int _)]) dX3_firstReady_29 (q := 2) rfl rfl (by decide) rfl ?_
      refine wp_goto (tgt := 4) dX3_firstReady_32 (by decide) ?_
      exact Wp.sub [1, 2, 0] rfl h
    · replace h := h.2 c8
      refine wp_iload_n 2 dX3_firstReady_27 rfl rfl ?_
      refine wp_istore_n (lo2 := [(1, .int _), (0, .ref _), (2, .int _)]) dX3_firstReady_28 rfl (by decide) rfl ?_
      refine wp_iinc (v := x2 + 1) (lo2 := [(2, .int _), (1, .int _), (0, .ref _)]) dX3_firstReady_29 (q := 2) rfl rfl (by decide) rfl ?_
      refine wp_goto (tgt := 4) dX3_firstReady_32 (by decide) ?_
      exact Wp.sub [2, 1, 0] rfl h
theorem bX3_takeIn_0 {G : Gl} {d : Nat} {X : Sh} {M : Mm} {Q : Mm → Int32 → Prop} {a : Nat} {x1 : Int32} {x2 : Int32} {x3 : Int32} (hS : Sh3 X a) (h : (∀ M1 : Mm, M1 = sI M a 3 0 → Wn G m_X3_takeIn (d + 1) 14 [(0, .ref a), (1, .int x1), (3, .int x3), (4, .int 0), (5, .int x2), (6, .int x1)] [] X M1 Q)) : Wn G m_X3_takeIn (d + 1) 0 [(0, .ref a), (1, .int x1), (2, .int x2), (3, .int x3)] [] X M Q := by
  refine wp_iconst (v := 0) dX3_takeIn_0 rfl ?_
  refine wp_istore (lo2 := [(4, .int _), (0, .ref _), (1, .int _), (2, .int _), (3, .int _)]) dX3_takeIn_1 (by decide) rfl ?_
  refine wp_iload_n 3 dX3_takeIn_3 rfl rfl ?_
  refine wp_istore (lo2 := [(5, .int _), (4, .int _), (0, .ref _), (1, .int _), (2, .int _), (3, .int _)]) dX3_takeIn_4 (by decide) rfl ?_
  refine wp_iload_n 3 dX3_takeIn_6 rfl rfl ?_
  refine wp_istore (lo2 := [(6, .int _), (5, .int _), (4, .int _), (0, .ref _), (1, .int _), (2, .int _), (3, .int _)]) dX3_takeIn_7 (by decide) rfl ?_
  refine wp_aload_n 3 dX3_takeIn_9 rfl rfl ?_
  refine wp_iconst (v := 0) dX3_takeIn_10 rfl ?_
  refine wp_putI dX3_takeIn_11 fp_RX3_22 rfl (sh3_K hS) ?_
  refine wp_nm (fun M1 eM1 => ?_)
  replace h := h M1 eM1
  exact Wp.sub [3, 4, 6, 2, 1, 0] rfl h
theorem bX3_takeIn_14 {G : Gl} {d : Nat} {X : Sh} {M : Mm} {Q : Mm → Int32 → Prop} {a : Nat} {x1 : Int32} {x3 : Int32} {x4 : Int32} {x5 : Int32} {x6 : Int32} (hS : Sh3 X a) (h : ((x6 ≤ 0 → Q M x4) ∧ (¬ (x6 ≤ 0) → ((x1 ≤ (mI M a 3) → Q M x4) ∧ (¬ (x1 ≤ (mI M a 3)) → (∃ q3 : Mm → Int32 → Prop, Cn G m_X3_firstReady d [.ref a] X M q3 ∧ ∀ M5 r6, q3 M5 r6 → (∃ j8 : Nat, r6 = nI j8 ∧ j8 < 6 ∧ (∀ v11 : Int32, v11 = (if (mI M5 (a + 1) j8) < x6 then (mI M5 (a + 1) j8) else x6) → (∀ v12 : Int32, v12 = (if x5 < (mI M5 (a + 2) j8) then (mI M5 (a + 2) j8) else x5) → (∀ v13 : Int32, v13 = (x4 + (v12 - x5)) → (∀ v14 : Int32, v14 = (v12 + v11) → (∀ M15 : Mm, M15 = sI M5 (a + 2) j8 (v14 + x3) → (∀ v16 : Int32, v16 = (x6 - v11) → (∀ M17 : Mm, M17 = sI M15 a 3 ((mI M15 a 3) + 1) → Wn G m_X3_takeIn (d + 1) 14 [(0, .ref a), (1, .int x1), (3, .int x3), (4, .int v13), (5, .int v14), (6, .int v16)] [] X M17 Q)))))))))))))) : Wn G m_X3_takeIn (d + 1) 14 [(0, .ref a), (1, .int x1), (3, .int x3), (4, .int x4), (5, .int x5), (6, .int x6)] [] X M Q := by
  refine wp_iload 5 dX3_takeIn_14 rfl ?_
  refine wp_if_le (tgt := 109) dX3_takeIn_16 (by decide) (fun c1 => ?_) (fun c1 => ?_)
  · replace h := h.1 c1
    refine wp_iload 3 dX3_takeIn_109 rfl ?_
    exact wn_iret dX3_takeIn_111 rfl h
  · replace h := h.2 c1
    refine wp_aload_n 0 dX3_takeIn_19 rfl rfl ?_
    refine wp_getI dX3_takeIn_20 fl_RX3_22 rfl (sh3_K hS) ?_
    refine wp_iload_n 1 dX3_takeIn_23 rfl rfl ?_
    refine wp_icmp_ge (tgt := 109) dX3_takeIn_24 (by decide) (fun c2 => ?_) (fun c2 => ?_)
    · replace h := h.1 c2
      refine wp_iload 3 dX3_takeIn_109 rfl ?_
      exact wn_iret dX3_takeIn_111 rfl h
    · replace h := h.2 c2
      refine wp_aload_n 0 dX3_takeIn_27 rfl rfl ?_
      obtain ⟨q3, o4, h⟩ := h
      refine wp_cvi dX3_takeIn_28 ck_RX3_32 (sh3_K hS) (as := []) rfl rfl (Nat.le_of_ble_eq_true rfl) o4 (fun M5 r6 o7 => ?_)
      replace h := h M5 r6 o7
      refine wp_istore (lo2 := [(7, .int _), (0, .ref _), (1, .int _), (3, .int _), (4, .int _), (5, .int _), (6, .int _)]) dX3_takeIn_31 (by decide) rfl ?_
      refine wp_iload 6 dX3_takeIn_33 rfl ?_
      refine wp_aload_n 1 dX3_takeIn_35 rfl rfl ?_
      refine wp_getR dX3_takeIn_36 fl_RX3_9 rfl (sh3_K hS) (sh3_F_cap hS) ?_
      refine wp_iload 0 dX3_takeIn_39 rfl ?_
      obtain ⟨j8, o9, o10, h⟩ := h
      refine wp_iald (n := 6) dX3_takeIn_41 (sh3_K_cap hS) (sh3_N_cap hS) (by decide) o9 o10 ?_
      refine wp_mmin dX3_takeIn_42 ml_RX3_36 ms_min mi_Math mc_min (Nat.le_of_ble_eq_true rfl) (Nat.le_refl _) (Nat.le_refl _) ?_
      refine wp_topi (fun v11 ev11 => ?_)
      replace h := h v11 ev11
      refine wp_istore (lo2 := [(8, .int _), (7, .int _), (0, .ref _), (1, .int _), (3, .int _), (4, .int _), (5, .int _), (6, .int _)]) dX3_takeIn_45 (by decide) rfl ?_
      refine wp_iload 6 dX3_takeIn_47 rfl ?_
      refine wp_aload_n 2 dX3_takeIn_49 rfl rfl ?_
      refine wp_getR dX3_takeIn_50 fl_RX3_15 rfl (sh3_K hS) (sh3_F_ready hS) ?_
      refine wp_iload 1 dX3_takeIn_53 rfl ?_
      refine wp_iald (n := 6) dX3_takeIn_55 (sh3_K_ready hS) (sh3_N_ready hS) (by decide) o9 o10 ?_
      refine wp_mmax dX3_takeIn_56 ml_RX3_42 ms_max mi_Math mc_max (Nat.le_of_ble_eq_true rfl) (Nat.le_refl _) (Nat.le_refl _) ?_
      refine wp_topi (fun v12 ev12 => ?_)
      replace h := h v12 ev12
      refine wp_istore (lo2 := [(9, .int _), (8, .int _), (7, .int _), (0, .ref _), (1, .int _), (3, .int _), (4, .int _), (5, .int _), (6, .int _)]) dX3_takeIn_59 (by decide) rfl ?_
      refine wp_iload 6 dX3_takeIn_61 rfl ?_
      refine wp_iload 0 dX3_takeIn_63 rfl ?_
      refine wp_iload 7 dX3_takeIn_65 rfl ?_
      refine wp_isub dX3_takeIn_67 ?_
      refine wp_iadd dX3_takeIn_68 ?_
      refine wp_topi (fun v13 ev13 => ?_)
      replace h := h v13 ev13
      refine wp_istore (lo2 := [(4, .int _), (9, .int _), (8, .int _), (7, .int _), (0, .ref _), (1, .int _), (3, .int _), (5, .int _), (6, .int _)]) dX3_takeIn_69 (by decide) rfl ?_
      refine wp_iload 1 dX3_takeIn_71 rfl ?_
      refine wp_iload 2 dX3_takeIn_73 rfl ?_
      refine wp_iadd dX3_takeIn_75 ?_
      refine wp_topi (fun v14 ev14 => ?_)
      replace h := h v14 ev14
      refine wp_istore (lo2 := [(5, .int _), (4, .int _), (9, .int _), (8, .int _), (7, .int _), (0, .ref _), (1, .int _), (3, .int _), (6, .int _)]) dX3_takeIn_76 (by decide) rfl ?_
      refine wp_aload_n 5 dX3_takeIn_78 rfl rfl ?_
      refine wp_getR dX3_takeIn_79 fl_RX3_15 rfl (sh3_K hS) (sh3_F_ready hS) ?_
      refine wp_iload 4 dX3_takeIn_82 rfl ?_
      refine wp_iload 0 dX3_takeIn_84 rfl ?_
      refine wp_iload_n 7 dX3_takeIn_86 rfl rfl ?_
      refine wp_iadd dX3_takeIn_87 ?_
      refine wp_iast (n := 6) dX3_takeIn_88 (sh3_K_ready hS) (sh3_N_ready hS) (by decide) o9 o10 ?_
      refine wp_nm (fun M15 eM15 => ?_)
      replace h := h M15 eM15
      refine wp_iload 8 dX3_takeIn_89 rfl ?_
      refine wp_iload 3 dX3_takeIn_91 rfl ?_
      refine wp_isub dX3_takeIn_93 ?_
      refine wp_topi (fun v16 ev16 => ?_)
      replace h := h v16 ev16
      refine wp_istore (lo2 := [(6, .int _), (5, .int _), (4, .int _), (9, .int _), (8, .int _), (7, .int _), (0, .ref _), (1, .int _), (3, .int _)]) dX3_takeIn_94 (by decide) rfl ?_
      refine wp_aload_n 6 dX3_takeIn_96 rfl rfl ?_
      refine wp_dup dX3_takeIn_97 rfl ?_
      refine wp_getI dX3_takeIn_98 fl_RX3_22 rfl (sh3_K hS) ?_
      refine wp_iconst (v := 1) dX3_takeIn_101 rfl ?_
      refine wp_iadd dX3_takeIn_102 ?_
      refine wp_putI dX3_takeIn_103 fp_RX3_22 rfl (sh3_K hS) ?_
      refine wp_nm (fun M17 eM17 => ?_)
      replace h := h M17 eM17
      refine wp_goto (tgt := 14) dX3_takeIn_106 (by decide) ?_
      exact Wp.sub [6, 7, 8, 2, 1, 0] rfl h
theorem cl_firstReady (G : Gl) (d : Nat) {X : Sh} {M : Mm} {a nd : Nat} {Q : Mm → Int32 → Prop} (hS : Sh3 X a) (hn : mI M a 2 = nI nd) (h6 : nd ≤ 6) (hq : Q M (nI (s_first (mI M (a + 2)) nd))) :
    ∀ n i : Nat, i + n = nd → 1 ≤ i → Wn G m_X3_firstReady d 4 [(0, .ref a), (1, .int (nI (s_first (mI M (a + 2)) i))), (2, .int (nI i))] [] X M Q
  | 0, i, h, _ => by
    have hi : i = nd := h
    subst hi
    exact bX3_firstReady_4 hS ⟨fun _ => hq, fun h => absurd (by rw [hn]; exact Int32.le_refl _) h⟩
  | n + 1, i, h, h1 => by
    obtain ⟨i2, rfl⟩ : ∃ i2, i = i2 + 1 := ⟨i - 1, by omega⟩
    have hb := s_first_lt (mI M (a + 2)) i2
    have ih := cl_firstReady G d hS hn h6 hq n (i2 + 1 + 1) (by omega) (by omega)
    have e : s_first (mI M (a + 2)) (i2 + 1 + 1) = if mI M (a + 2) (s_first (mI M (a + 2)) (i2 + 1)) ≤ mI M (a + 2) (i2 + 1) then s_first (mI M (a + 2)) (i2 + 1) else i2 + 1 := rfl
    rw [e] at ih
    refine bX3_firstReady_4 hS ⟨fun h2 => ?_, fun _ => ⟨i2 + 1, rfl, by omega, _, rfl, by omega, fun h2 => ?_, fun h2 => ?_⟩⟩
    · rw [hn] at h2
      have := (nI_leI (by omega) (by omega)).mp h2
      omega
    · rw [if_pos h2] at ih
      rw [nI_1]
      exact ih
    · rw [if_neg h2] at ih
      rw [nI_1]
      exact ih
theorem s_first_1 (ρ : Nat → Int32) : s_first ρ 1 = 0 := by
  have : s_first ρ 1 < 1 := s_first_lt ρ 0
  omega
theorem cp_X3_firstReady (G : Gl) (d : Nat) (X : Sh) (M : Mm) (a nd : Nat) (hS : Sh3 X a) (hn : mI M a 2 = nI nd) (h6 : nd ≤ 6) (h1 : 1 ≤ nd) : Cn G m_X3_firstReady d [.ref a] X M (fun M2 x => M2 = M ∧ x = nI (s_first (mI M (a + 2)) nd)) := by
  refine Cn.of (by decide) (Nat.le_of_ble_eq_true rfl) (bX3_firstReady_0 hS ?_)
  have h := cl_firstReady G d (M := M) hS (Q := fun M2 x => M2 = M ∧ x = nI (s_first (mI M (a + 2)) nd)) hn h6 ⟨rfl, rfl⟩ (nd - 1) 1 (by omega) (by omega)
  rw [s_first_1] at h
  exact h
/-- what filling leaves of the class's ladles -/
def TkQ (M : Mm) (a : Nat) (r : Int32 × Nat × (Nat → Int32)) (M2 : Mm) : Prop := mI M2 (a + 2) = r.2.2 ∧ mI M2 a 3 = nI r.2.1 ∧ (∀ k, k ≠ 3 → mI M2 a k = mI M a k) ∧ (∀ c, c ≠ a → c ≠ a + 2 → mI M2 c = mI M c) ∧ mR M2 = mR M
theorem cl_takeIn (G : Gl) (d : Nat) {X : Sh} {a nd N : Nat} {away : Int32} {cap : Nat → Int32} {Q : Mm → Int32 → Prop} (hS : Sh3 X a) (h6 : nd ≤ 6) (h1 : 1 ≤ nd) (hN : N ≤ 9999) (hC : Caps cap nd) :
    ∀ (f L k : Nat) (time late : Int32) (M : Mm), L ≤ f → k + L ≤ N → mI M a 2 = nI nd → (∀ i, i < nd → mI M (a + 1) i = cap i) → mI M a 3 = nI k → (∀ M2, TkQ M a (pf cap nd away f (nI L) time late k (mI M (a + 2))) M2 → Q M2 (pf cap nd away f (nI L) time late k (mI M (a + 2))).1) →
      Wn G m_X3_takeIn (d + 1) 14 [(0, .ref a), (1, .int (nI N)), (3, .int away), (4, .int late), (5, .int time), (6, .int (nI L))] [] X M Q
  | 0, L, k, time, late, M, hL, hk, hn, hc, h3, hq => by
    have e : L = 0 := by omega
    subst e
    exact bX3_takeIn_14 hS ⟨fun _ => hq M ⟨rfl, h3, fun _ _ => rfl, fun _ _ _ => rfl, rfl⟩, fun h => absurd (Int32.le_refl _) h⟩
  | f + 1, L, k, time, late, M, hL, hk, hn, hc, h3, hq => by
    by_cases h0 : L = 0
    · subst h0
      have e : pf cap nd away (f + 1) (nI 0) time late k (mI M (a + 2)) = (late, k, mI M (a + 2)) := if_pos (Int32.le_refl _)
      rw [e] at hq
      exact bX3_takeIn_14 hS ⟨fun _ => hq M ⟨rfl, h3, fun _ _ => rfl, fun _ _ _ => rfl, rfl⟩, fun h => absurd (Int32.le_refl _) h⟩
    · have hp : ¬ nI L ≤ 0 := fun q => by
        have := (nI_leI (b := 0) (by omega) (by omega)).mp q
        omega
      have e : pf cap nd away (f + 1) (nI L) time late k (mI M (a + 2)) = pf cap nd away f (nI L - pf_x cap (s_first (mI M (a + 2)) nd) (nI L)) (pf_b (mI M (a + 2)) (s_first (mI M (a + 2)) nd) time + pf_x cap (s_first (mI M (a + 2)) nd) (nI L)) (late + (pf_b (mI M (a + 2)) (s_first (mI M (a + 2)) nd) time - time)) (k + 1) (upd (mI M (a + 2)) (s_first (mI M (a + 2)) nd) (pf_b (mI M (a + 2)) (s_first (mI M (a + 2)) nd) time + pf_x cap (s_first (mI M (a + 2)) nd) (nI L) + away)) := if_neg hp
      rw [e] at hq
      obtain ⟨n, rfl⟩ : ∃ n, nd = n + 1 := ⟨nd - 1, by omega⟩
      have hj := s_first_lt (mI M (a + 2)) n
      refine bX3_takeIn_14 hS ⟨fun q => absurd q hp, fun _ => ⟨fun q => ?_, fun _ => ⟨_, cp_X3_firstReady G d X M a (n + 1) hS hn h6 h1, ?_⟩⟩⟩
      · rw [h3] at q
        have := (nI_leI (by omega) (by omega)).mp q
        omega
      rintro M5 r6 ⟨e5, rfl⟩
      have e5 := e5.symm
      subst e5
      refine ⟨_, rfl, by omega, ?_⟩
      generalize s_first (mI M (a + 2)) (n + 1) = j at hj hq
      intro v11 e11 v12 e12
      have f11 : v11 = pf_x cap j (nI L) := by
        rw [e11, hc j hj]
        unfold pf_x
        by_cases q : cap j < nI L
        · rw [if_pos q, if_pos (Int32.le_of_lt q)]
        · rw [if_neg q]
          by_cases q2 : cap j ≤ nI L
          · rw [if_pos q2]
            exact Int32.le_antisymm (i_nlt.mp q) q2
          · rw [if_neg q2]
      have f12 : v12 = pf_b (mI M (a + 2)) j time := by
        rw [e12]
        unfold pf_b
        by_cases q : mI M (a + 2) j ≤ time
        · rw [if_pos q, if_neg (i_nlt.mpr q)]
        · rw [if_neg q, if_pos (i_nle.mp q)]
      obtain ⟨x, x1, x2, x3⟩ := pf_x_nat (L := L) hC hj (by omega) (by omega)
      rw [x3] at f11 hq
      rw [nI_subI _ _ x2] at hq
      subst f11 f12
      rintro v13 rfl v14 rfl M15 e15 v16 e16 M17 e17
      rw [nI_subI _ _ x2] at e16
      subst e16
      have m17 : ∀ c, c ≠ a → c ≠ a + 2 → mI M17 c = mI M c := fun c h4 h5 => by rw [e17, mI_sI, up2_off _ _ _ h4, e15, mI_sI, up2_off _ _ _ h5]
      have k17 : ∀ k, k ≠ 3 → mI M17 a k = mI M a k := fun k h4 => by rw [e17, mI_sI, up2_k _ _ _ h4, e15, mI_sI, up2_off _ _ _ (by omega)]
      have v17 : mI M17 a 3 = nI (k + 1) := by rw [e17, mI_sI, up2_same, e15, mI_sI, up2_off _ _ _ (by omega), h3, nI_1]
      have r17 : mI M17 (a + 2) = upd (mI M (a + 2)) j (pf_b (mI M (a + 2)) j time + nI x + away) := by rw [e17, mI_sI, up2_off _ _ _ (by omega), e15, mI_sI, up2_row]
      have R17 : mR M17 = mR M := by
        rw [e17, e15]
        rfl
      refine cl_takeIn G d hS h6 h1 hN hC f (L - x) (k + 1) _ _ M17 (by omega) (by omega) (by rw [k17 _ (by omega)]; exact hn) (fun i hi => by rw [m17 _ (by omega) (by omega)]; exact hc i hi) v17 (fun M2 h4 => ?_)
      rw [r17] at h4 ⊢
      obtain ⟨p1, p2, p3, p4, p5⟩ := h4
      exact hq M2 ⟨p1, p2, fun k hk => (p3 k hk).trans (k17 k hk), fun c h5 h6 => (p4 c h5 h6).trans (m17 c h5 h6), p5.trans R17⟩
theorem cp_X3_takeIn (G : Gl) (d : Nat) (hd : 1 ≤ d) (X : Sh) (M : Mm) (a nd N : Nat) (time away : Int32) (cap : Nat → Int32) (hS : Sh3 X a) (hn : mI M a 2 = nI nd) (h6 : nd ≤ 6) (h1 : 1 ≤ nd) (hN : N ≤ 9999) (hC : Caps cap nd) (hc : ∀ i, i < nd → mI M (a + 1) i = cap i) : Cn G m_X3_takeIn d [.ref a, .int (nI N), .int time, .int away] X M (fun M2 r => TkQ M a (pf cap nd away N (nI N) time 0 0 (mI M (a + 2))) M2 ∧ r = (pf cap nd away N (nI N) time 0 0 (mI M (a + 2))).1) := by
  obtain ⟨d, rfl⟩ : ∃ d1, d = d1 + 1 := ⟨d - 1, by omega⟩
  refine Cn.of (by decide) (Nat.le_of_ble_eq_true rfl) (bX3_takeIn_0 hS ?_)
  intro M1 e1
  have m1 : ∀ c, c ≠ a → mI M1 c = mI M c := fun c h => by rw [e1, mI_sI, up2_off _ _ _ h]
  have k1 : ∀ k, k ≠ 3 → mI M1 a k = mI M a k := fun k h => by rw [e1, mI_sI, up2_k _ _ _ h]
  refine cl_takeIn G d hS h6 h1 hN hC N N 0 time 0 M1 (Nat.le_refl _) (by omega) (by rw [k1 _ (by omega)]; exact hn) (fun i hi => by rw [m1 _ (by omega)]; exact hc i hi) (by rw [e1, mI_sI, up2_same]; rfl) (fun M2 h2 => ?_)
  rw [m1 (a + 2) (by omega)] at h2 ⊢
  obtain ⟨p1, p2, p3, p4, p5⟩ := h2
  exact ⟨⟨p1, p2, fun k hk => (p3 k hk).trans (k1 k hk), fun c h5 h6 => (p4 c h5 h6).trans (m1 c h5), by rw [p5, e1]; rfl⟩, rfl⟩
