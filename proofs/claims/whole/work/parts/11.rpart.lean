/-! a whole is parted by weights -/
def s_sumL (f : Nat → Int64) : Nat → Int64
  | 0 => 0
  | n + 1 => s_sumL f n + f n
def p_base (x : Int32) (w : Nat → Int64) (A : Int64) (r : Nat) : Int32 := ((x.toInt64 * w r) / A).toInt32
def p_rest (x : Int32) (w : Nat → Int64) (A : Int64) (r : Nat) : Int64 := (x.toInt64 * w r) - (x.toInt64 * w r) / A * A
def p_left (x : Int32) (w : Nat → Int64) (A : Int64) : Nat → Int32
  | 0 => x
  | n + 1 => p_left x w A n - p_base x w A n
def p_best (q : Nat → Int64) : Nat → Nat
  | 0 => 0
  | n + 1 => if q (p_best q n) < q n then n else p_best q n
theorem p_best_lt (q : Nat → Int64) : ∀ n, p_best q (n + 1) < n + 1
  | 0 => by
    have h : p_best q (0 + 1) = 0 := by
      show (if q (p_best q 0) < q 0 then 0 else p_best q 0) = 0
      split <;> rfl
    omega
  | n + 1 => by
    have ih := p_best_lt q n
    show (if q (p_best q (n + 1)) < q (n + 1) then n + 1 else p_best q (n + 1)) < n + 1 + 1
    split <;> omega
theorem p_best_cong {q q2 : Nat → Int64} : ∀ n, (∀ r, r < n + 1 → q r = q2 r) → p_best q (n + 1) = p_best q2 (n + 1)
  | 0, h => by
    show (if q (p_best q 0) < q 0 then 0 else p_best q 0) = (if q2 (p_best q2 0) < q2 0 then 0 else p_best q2 0)
    split <;> split <;> rfl
  | n + 1, h => by
    have ih := p_best_cong (q := q) (q2 := q2) n (fun r hr => h r (by omega))
    have hb := p_best_lt q2 n
    show (if q (p_best q (n + 1)) < q (n + 1) then n + 1 else p_best q (n + 1)) = (if q2 (p_best q2 (n + 1)) < q2 (n + 1) then n + 1 else p_best q2 (n + 1))
    rw [ih, h (n + 1) (by omega), h (p_best q2 (n + 1)) (by omega)]
def p_give (p : Nat → Int32) (q : Nat → Int64) : Nat → Nat → Int32
  | 0 => p
  | n + 1 => p_give (upd p (p_best q 5) (p (p_best q 5) + 1)) (vp_updL q (p_best q 5) (-1)) n
theorem p_give_cong {p p2 : Nat → Int32} {q q2 : Nat → Int64} (n : Nat) (hp : ∀ r, r < 5 → p r = p2 r) (hq : ∀ r, r < 5 → q r = q2 r) : ∀ r, r < 5 → p_give p q n r = p_give p2 q2 n r := by
  induction n generalizing p p2 q q2 with
  | zero => exact hp
  | succ n ih =>
    intro r hr
    have hb : p_best q 5 = p_best q2 5 := p_best_cong 4 hq
    have hl := p_best_lt q2 4
    show p_give (upd p (p_best q 5) (p (p_best q 5) + 1)) (vp_updL q (p_best q 5) (-1)) n r = p_give (upd p2 (p_best q2 5) (p2 (p_best q2 5) + 1)) (vp_updL q2 (p_best q2 5) (-1)) n r
    rw [hb, hp _ hl]
    refine ih (fun k hk => ?_) (fun k hk => ?_) r hr
    · simp only [upd]
      rw [hp k hk]
    · simp only [vp_updL]
      rw [hq k hk]
def s_parts (x : Int32) (w : Nat → Int64) : Nat → Int32 :=
  if s_sumL w 5 = 0 then fun _ => 0 else p_give (p_base x w (s_sumL w 5)) (p_rest x w (s_sumL w 5)) (p_left x w (s_sumL w 5) 5).toNatClampNeg
theorem bX11_part_0 {G : Gl} {d : Nat} {X : Sh} {M : Mm} {Q : Mm → Prop} {a : Nat} {x1 : Int32} (hS : Sh10 X a) (h : Wv G m_X11_part d 8 [(0, .ref a), (1, .int x1), (2, .long 0), (4, .int x1), (5, .int 0)] [] X M Q) : Wv G m_X11_part d 0 [(0, .ref a), (1, .int x1)] [] X M Q := by
  refine wp_lconst (v := 0) dX11_part_0 rfl ?_
  refine wp_lstore_n (lo2 := [(2, .long _), (0, .ref _), (1, .int _)]) dX11_part_1 rfl (by decide) rfl ?_
  refine wp_iload_n 2 dX11_part_2 rfl rfl ?_
  refine wp_istore (lo2 := [(4, .int _), (2, .long _), (0, .ref _), (1, .int _)]) dX11_part_3 (by decide) rfl ?_
  refine wp_iconst (v := 0) dX11_part_5 rfl ?_
  refine wp_istore (lo2 := [(5, .int _), (4, .int _), (2, .long _), (0, .ref _), (1, .int _)]) dX11_part_6 (by decide) rfl ?_
  exact Wp.sub [3, 4, 2, 1, 0] rfl h
theorem bX11_part_8 {G : Gl} {d : Nat} {X : Sh} {M : Mm} {Q : Mm → Prop} {a : Nat} {x1 : Int32} {x2 : Int64} {x4 : Int32} {x5 : Int32} (hS : Sh10 X a) (h : ((5 ≤ x5 → ((¬ ((lg_cmp x2 0) = 0) → Wv G m_X11_part d 48 [(0, .ref a), (1, .int x1), (2, .long x2), (4, .int x4), (5, .int 0)] [] X M Q) ∧ ((lg_cmp x2 0) = 0 → Q M))) ∧ (¬ (5 ≤ x5) → (∃ j3 : Nat, x5 = nI j3 ∧ j3 < 5 ∧ (∀ w6 : Int64, w6 = (x2 + (mJ M (a + 12) j3)) → (∀ M7 : Mm, M7 = sI M (a + 13) j3 0 → Wv G m_X11_part d 8 [(0, .ref a), (1, .int x1), (2, .long w6), (4, .int x4), (5, .int (x5 + 1))] [] X M7 Q)))))) : Wv G m_X11_part d 8 [(0, .ref a), (1, .int x1), (2, .long x2), (4, .int x4), (5, .int x5)] [] X M Q := by
  refine wp_iload 4 dX11_part_8 rfl ?_
  refine wp_iconst (v := 5) dX11_part_10 rfl ?_
  refine wp_icmp_ge (tgt := 38) dX11_part_11 (by decide) (fun c1 => ?_) (fun c1 => ?_)
  · replace h := h.1 c1
    refine wp_lload_n 2 dX11_part_38 rfl rfl ?_
    refine wp_lconst (v := 0) dX11_part_39 rfl ?_
    refine wp_lcmp dX11_part_40 ?_
    refine wp_if_ne (tgt := 45) dX11_part_41 (by decide) (fun c2 => ?_) (fun c2 => ?_)
    · replace h := h.1 c2
      refine wp_iconst (v := 0) dX11_part_45 rfl ?_
      refine wp_istore (lo2 := [(5, .int _), (0, .ref _), (1, .int _), (2, .long _), (4, .int _)]) dX11_part_46 (by decide) rfl ?_
      exact Wp.sub [1, 2, 3, 4, 0] rfl h
    · replace h := h.2 c2
      exact wv_ret dX11_part_44 rfl h
  · replace h := h.2 c1
    refine wp_lload_n 2 dX11_part_14 rfl rfl ?_
    refine wp_aload_n 0 dX11_part_15 rfl rfl ?_
    refine wp_getR dX11_part_16 fl_RX11_43 rfl (sh10_K hS) (sh10_F_weights hS) ?_
    refine wp_iload 4 dX11_part_19 rfl ?_
    obtain ⟨j3, o4, o5, h⟩ := h
    refine wp_lald (n := 5) dX11_part_21 (sh10_K_weights hS) (sh10_N_weights hS) (by decide) o4 o5 ?_
    refine wp_ladd dX11_part_22 ?_
    refine wp_topl (fun w6 ew6 => ?_)
    replace h := h w6 ew6
    refine wp_lstore_n (lo2 := [(2, .long _), (0, .ref _), (1, .int _), (4, .int _), (5, .int _)]) dX11_part_23 rfl (by decide) rfl ?_
    refine wp_aload_n 1 dX11_part_24 rfl rfl ?_
    refine wp_getR dX11_part_25 fl_RX11_47 rfl (sh10_K hS) (sh10_F_parts hS) ?_
    refine wp_iload 4 dX11_part_28 rfl ?_
    refine wp_iconst (v := 0) dX11_part_30 rfl ?_
    refine wp_iast (n := 5) dX11_part_31 (sh10_K_parts hS) (sh10_N_parts hS) (by decide) o4 o5 ?_
    refine wp_nm (fun M7 eM7 => ?_)
    replace h := h M7 eM7
    refine wp_iinc (v := x5 + 1) (lo2 := [(5, .int _), (2, .long _), (0, .ref _), (1, .int _), (4, .int _)]) dX11_part_32 (q := 4) rfl rfl (by decide) rfl ?_
    refine wp_goto (tgt := 8) dX11_part_35 (by decide) ?_
    exact Wp.sub [2, 3, 1, 4, 0] rfl h
theorem bX11_part_48 {G : Gl} {d : Nat} {X : Sh} {M : Mm} {Q : Mm → Prop} {a : Nat} {x1 : Int32} {x2 : Int64} {x4 : Int32} {x5 : Int32} (hS : Sh10 X a) (h : ((5 ≤ x5 → Wv G m_X11_part d 111 [(0, .ref a), (4, .int x4)] [] X M Q) ∧ (¬ (5 ≤ x5) → (∃ j2 : Nat, x5 = nI j2 ∧ j2 < 5 ∧ (¬ (x2 = 0) ∧ (∀ M6 : Mm, M6 = sI M (a + 13) j2 (((x1.toInt64 * (mJ M (a + 12) j2)) / x2).toInt32) → (¬ (x2 = 0) ∧ (∀ M8 : Mm, M8 = sJ M6 (a + 14) j2 ((x1.toInt64 * (mJ M6 (a + 12) j2)) - (x1.toInt64 * (mJ M6 (a + 12) j2)) / x2 * x2) → (∀ v9 : Int32, v9 = (x4 - (mI M8 (a + 13) j2)) → Wv G m_X11_part d 48 [(0, .ref a), (1, .int x1), (2, .long x2), (4, .int v9), (5, .int (x5 + 1))] [] X M8 Q))))))))) : Wv G m_X11_part d 48 [(0, .ref a), (1, .int x1), (2, .long x2), (4, .int x4), (5, .int x5)] [] X M Q := by
  refine wp_iload 4 dX11_part_48 rfl ?_
  refine wp_iconst (v := 5) dX11_part_50 rfl ?_
  refine wp_icmp_ge (tgt := 111) dX11_part_51 (by decide) (fun c1 => ?_) (fun c1 => ?_)
  · replace h := h.1 c1
    exact Wp.sub [0, 3] rfl h
  · replace h := h.2 c1
    refine wp_aload_n 0 dX11_part_54 rfl rfl ?_
    refine wp_getR dX11_part_55 fl_RX11_47 rfl (sh10_K hS) (sh10_F_parts hS) ?_
    refine wp_iload 4 dX11_part_58 rfl ?_
    refine wp_iload_n 1 dX11_part_60 rfl rfl ?_
    refine wp_i2l dX11_part_61 ?_
    refine wp_aload_n 0 dX11_part_62 rfl rfl ?_
    refine wp_getR dX11_part_63 fl_RX11_43 rfl (sh10_K hS) (sh10_F_weights hS) ?_
    refine wp_iload 4 dX11_part_66 rfl ?_
    obtain ⟨j2, o3, o4, h⟩ := h
    refine wp_lald (n := 5) dX11_part_68 (sh10_K_weights hS) (sh10_N_weights hS) (by decide) o3 o4 ?_
    refine wp_lmul dX11_part_69 ?_
    refine wp_lload_n 2 dX11_part_70 rfl rfl ?_
    obtain ⟨o5, h⟩ := h
    refine wp_ldiv dX11_part_71 o5 ?_
    refine wp_l2i dX11_part_72 ?_
    refine wp_iast (n := 5) dX11_part_73 (sh10_K_parts hS) (sh10_N_parts hS) (by decide) o3 o4 ?_
    refine wp_nm (fun M6 eM6 => ?_)
    replace h := h M6 eM6
    refine wp_aload_n 0 dX11_part_74 rfl rfl ?_
    refine wp_getR dX11_part_75 fl_RX11_50 rfl (sh10_K hS) (sh10_F_rests hS) ?_
    refine wp_iload 4 dX11_part_78 rfl ?_
    refine wp_iload_n 1 dX11_part_80 rfl rfl ?_
    refine wp_i2l dX11_part_81 ?_
    refine wp_aload_n 0 dX11_part_82 rfl rfl ?_
    refine wp_getR dX11_part_83 fl_RX11_43 rfl (sh10_K hS) (sh10_F_weights hS) ?_
    refine wp_iload 4 dX11_part_86 rfl ?_
    refine wp_lald (n := 5) dX11_part_88 (sh10_K_weights hS) (sh10_N_weights hS) (by decide) o3 o4 ?_
    refine wp_lmul dX11_part_89 ?_
    refine wp_lload_n 2 dX11_part_90 rfl rfl ?_
    obtain ⟨o7, h⟩ := h
    refine wp_lrem dX11_part_91 o7 ?_
    refine wp_last (n := 5) dX11_part_92 (sh10_K_rests hS) (sh10_N_rests hS) (by decide) o3 o4 ?_
    refine wp_nm (fun M8 eM8 => ?_)
    replace h := h M8 eM8
    refine wp_iload 3 dX11_part_93 rfl ?_
    refine wp_aload_n 0 dX11_part_95 rfl rfl ?_
    refine wp_getR dX11_part_96 fl_RX11_47 rfl (sh10_K hS) (sh10_F_parts hS) ?_
    refine wp_iload 4 dX11_part_99 rfl ?_
    refine wp_iald (n := 5) dX11_part_101 (sh10_K_parts hS) (sh10_N_parts hS) (by decide) o3 o4 ?_
    refine wp_isub dX11_part_102 ?_
    refine wp_topi (fun v9 ev9 => ?_)
    replace h := h v9 ev9
    refine wp_istore (lo2 := [(4, .int _), (0, .ref _), (1, .int _), (2, .long _), (5, .int _)]) dX11_part_103 (by decide) rfl ?_
    refine wp_iinc (v := x5 + 1) (lo2 := [(5, .int _), (4, .int _), (0, .ref _), (1, .int _), (2, .long _)]) dX11_part_105 (q := 4) rfl rfl (by decide) rfl ?_
    refine wp_goto (tgt := 48) dX11_part_108 (by decide) ?_
    exact Wp.sub [2, 3, 4, 1, 0] rfl h
theorem bX11_part_111 {G : Gl} {d : Nat} {X : Sh} {M : Mm} {Q : Mm → Prop} {a : Nat} {x4 : Int32} (hS : Sh10 X a) (h : ((x4 ≤ 0 → Q M) ∧ (¬ (x4 ≤ 0) → Wv G m_X11_part d 122 [(0, .ref a), (4, .int x4), (5, .int 0), (6, .int 1)] [] X M Q))) : Wv G m_X11_part d 111 [(0, .ref a), (4, .int x4)] [] X M Q := by
  refine wp_iload 1 dX11_part_111 rfl ?_
  refine wp_if_le (tgt := 188) dX11_part_113 (by decide) (fun c1 => ?_) (fun c1 => ?_)
  · replace h := h.1 c1
    exact wv_ret dX11_part_188 rfl h
  · replace h := h.2 c1
    refine wp_iconst (v := 0) dX11_part_116 rfl ?_
    refine wp_istore (lo2 := [(5, .int _), (0, .ref _), (4, .int _)]) dX11_part_117 (by decide) rfl ?_
    refine wp_iconst (v := 1) dX11_part_119 rfl ?_
    refine wp_istore (lo2 := [(6, .int _), (5, .int _), (0, .ref _), (4, .int _)]) dX11_part_120 (by decide) rfl ?_
    exact Wp.sub [2, 3, 1, 0] rfl h
theorem bX11_part_122 {G : Gl} {d : Nat} {X : Sh} {M : Mm} {Q : Mm → Prop} {a : Nat} {x4 : Int32} {x5 : Int32} {x6 : Int32} (hS : Sh10 X a) (h : ((5 ≤ x6 → (∃ j2 : Nat, x5 = nI j2 ∧ j2 < 5 ∧ (∀ M5 : Mm, M5 = sI M (a + 13) j2 ((mI M (a + 13) j2) + 1) → (∀ M6 : Mm, M6 = sJ M5 (a + 14) j2 (-1) → Wv G m_X11_part d 111 [(0, .ref a), (4, .int (x4 + (-1)))] [] X M6 Q)))) ∧ (¬ (5 ≤ x6) → (∃ j7 : Nat, x6 = nI j7 ∧ j7 < 5 ∧ (∃ j10 : Nat, x5 = nI j10 ∧ j10 < 5 ∧ (∀ v15 : Int32, v15 = (if (lg_cmp (mJ M (a + 14) j7) (mJ M (a + 14) j10)) ≤ 0 then x5 else x6) → Wv G m_X11_part d 122 [(0, .ref a), (4, .int x4), (5, .int v15), (6, .int (x6 + 1))] [] X M Q)))))) : Wv G m_X11_part d 122 [(0, .ref a), (4, .int x4), (5, .int x5), (6, .int x6)] [] X M Q := by
  refine wp_iload 3 dX11_part_122 rfl ?_
  refine wp_iconst (v := 5) dX11_part_124 rfl ?_
  refine wp_icmp_ge (tgt := 161) dX11_part_125 (by decide) (fun c1 => ?_) (fun c1 => ?_)
  · replace h := h.1 c1
    refine wp_aload_n 0 dX11_part_161 rfl rfl ?_
    refine wp_getR dX11_part_162 fl_RX11_47 rfl (sh10_K hS) (sh10_F_parts hS) ?_
    refine wp_iload 2 dX11_part_165 rfl ?_
    refine wp_dup2_11 dX11_part_167 rfl rfl ?_
    obtain ⟨j2, o3, o4, h⟩ := h
    refine wp_iald (n := 5) dX11_part_168 (sh10_K_parts hS) (sh10_N_parts hS) (by decide) o3 o4 ?_
    refine wp_iconst (v := 1) dX11_part_169 rfl ?_
    refine wp_iadd dX11_part_170 ?_
    refine wp_iast (n := 5) dX11_part_171 (sh10_K_parts hS) (sh10_N_parts hS) (by decide) o3 o4 ?_
    refine wp_nm (fun M5 eM5 => ?_)
    replace h := h M5 eM5
    refine wp_aload_n 0 dX11_part_172 rfl rfl ?_
    refine wp_getR dX11_part_173 fl_RX11_50 rfl (sh10_K hS) (sh10_F_rests hS) ?_
    refine wp_iload 2 dX11_part_176 rfl ?_
    refine wp_ldc2 dX11_part_178 kc_RX11_132 ?_
    refine wp_last (n := 5) dX11_part_181 (sh10_K_rests hS) (sh10_N_rests hS) (by decide) o3 o4 ?_
    refine wp_nm (fun M6 eM6 => ?_)
    replace h := h M6 eM6
    refine wp_iinc (v := x4 + (-1)) (lo2 := [(4, .int _), (0, .ref _), (5, .int _), (6, .int _)]) dX11_part_182 (q := 1) rfl rfl (by decide) rfl ?_
    refine wp_goto (tgt := 111) dX11_part_185 (by decide) ?_
    exact Wp.sub [1, 0] rfl h
  · replace h := h.2 c1
    refine wp_aload_n 0 dX11_part_128 rfl rfl ?_
    refine wp_getR dX11_part_129 fl_RX11_50 rfl (sh10_K hS) (sh10_F_rests hS) ?_
    refine wp_iload 3 dX11_part_132 rfl ?_
    obtain ⟨j7, o8, o9, h⟩ := h
    refine wp_lald (n := 5) dX11_part_134 (sh10_K_rests hS) (sh10_N_rests hS) (by decide) o8 o9 ?_
    refine wp_aload_n 0 dX11_part_135 rfl rfl ?_
    refine wp_getR dX11_part_136 fl_RX11_50 rfl (sh10_K hS) (sh10_F_rests hS) ?_
    refine wp_iload 2 dX11_part_139 rfl ?_
    obtain ⟨j10, o11, o12, h⟩ := h
    refine wp_lald (n := 5) dX11_part_141 (sh10_K_rests hS) (sh10_N_rests hS) (by decide) o11 o12 ?_
    refine wp_lcmp dX11_part_142 ?_
    have K14 : Wp G m_X11_part d 0 0 0 0 153 [(0, .ref a), (4, .int x4), (5, .int x5), (6, .int x6)] [.int ((if (lg_cmp (mJ M (a + 14) j7) (mJ M (a + 14) j10)) ≤ 0 then x5 else x6))] X M (fun X2 M2 v => X2 = X ∧ v = none ∧ Q M2) := by
      refine wp_topi (fun v15 ev15 => ?_)
      replace h := h v15 ev15
      refine wp_istore (lo2 := [(5, .int _), (0, .ref _), (4, .int _), (6, .int _)]) dX11_part_153 (by decide) rfl ?_
      refine wp_iinc (v := x6 + 1) (lo2 := [(6, .int _), (5, .int _), (0, .ref _), (4, .int _)]) dX11_part_155 (q := 3) rfl rfl (by decide) rfl ?_
      refine wp_goto (tgt := 122) dX11_part_158 (by decide) ?_
      exact Wp.sub [2, 3, 1, 0] rfl h
    refine wp_if_le (tgt := 151) dX11_part_143 (by decide) (fun c13 => ?_) (fun c13 => ?_)
    · refine wp_iload 2 dX11_part_151 rfl ?_
      rw [if_pos c13] at K14
      exact K14
    · refine wp_iload 3 dX11_part_146 rfl ?_
      refine wp_goto (tgt := 153) dX11_part_148 (by decide) ?_
      rw [if_neg c13] at K14
      exact K14
theorem n5 {i : Nat} (h : i < 5) : ¬ (5 : Int32) ≤ nI i := fun q => by
  have := (nI_leI (a := 5) (by omega) (by omega)).mp q
  omega
/-- what part leaves: the parts' row, all else but longs as it was -/
def PartQ (M : Mm) (a : Nat) (p : Nat → Int32) (M2 : Mm) : Prop := (∀ r, r < 5 → mI M2 (a + 13) r = p r) ∧ (∀ b, b ≠ a + 13 → mI M2 b = mI M b) ∧ mR M2 = mR M
theorem best_step {q : Nat → Int64} {i : Nat} : (if (lg_cmp (q i) (q (p_best q i))) ≤ 0 then nI (p_best q i) else nI i) = nI (p_best q (i + 1)) := by
  show _ = nI (if q (p_best q i) < q i then i else p_best q i)
  by_cases h : lg_cmp (q i) (q (p_best q i)) ≤ 0
  · rw [if_pos h, if_neg (Int64.not_lt.mpr ((lg_cmp_le _ _).mp h))]
  · rw [if_neg h, if_pos (Int64.not_le.mp (fun h2 => h ((lg_cmp_le _ _).mpr h2)))]
theorem cl_part_122 (G : Gl) (d : Nat) {X : Sh} {a : Nat} {x4 : Int32} {Q : Mm → Prop} (hS : Sh10 X a) {M : Mm} :
    ∀ n i : Nat, i + n = 5 → 1 ≤ i → Wv G m_X11_part d 111 [(0, .ref a), (4, .int (x4 + (-1)))] [] X (sJ (sI M (a + 13) (p_best (mJ M (a + 14)) 5) (mI M (a + 13) (p_best (mJ M (a + 14)) 5) + 1)) (a + 14) (p_best (mJ M (a + 14)) 5) (-1)) Q →
      Wv G m_X11_part d 122 [(0, .ref a), (4, .int x4), (5, .int (nI (p_best (mJ M (a + 14)) i))), (6, .int (nI i))] [] X M Q
  | 0, i, h, h1, hk => by
    have hi : i = 5 := h
    subst hi
    refine bX11_part_122 hS ⟨fun _ => ⟨_, rfl, p_best_lt _ 4, ?_⟩, fun h => absurd (by decide) h⟩
    rintro M5 rfl M6 rfl
    exact hk
  | n + 1, i, h, h1, hk => by
    obtain ⟨i2, rfl⟩ : ∃ i2, i = i2 + 1 := ⟨i - 1, by omega⟩
    have hb := p_best_lt (mJ M (a + 14)) i2
    refine bX11_part_122 hS ⟨fun h2 => absurd h2 (n5 (by omega)), fun _ => ⟨i2 + 1, rfl, by omega, _, rfl, by omega, ?_⟩⟩
    rintro v rfl
    rw [best_step, nI_1]
    exact cl_part_122 G d hS n (i2 + 1 + 1) (by omega) (by omega) hk
theorem cl_part_111 (G : Gl) (d : Nat) {X : Sh} {a : Nat} {Q : Mm → Prop} (hS : Sh10 X a) (M0 : Mm) : ∀ (n : Nat) (x4 : Int32) (M : Mm), x4.toNatClampNeg = n → (∀ b, b ≠ a + 13 → mI M b = mI M0 b) → mR M = mR M0 →
    (∀ M2, PartQ M0 a (p_give (mI M (a + 13)) (mJ M (a + 14)) n) M2 → Q M2) → Wv G m_X11_part d 111 [(0, .ref a), (4, .int x4)] [] X M Q
  | 0, x4, M, h, h1, h2, hq => by
    have h3 : x4 ≤ 0 := by
      rw [fa_le]
      have : x4.toNatClampNeg = x4.toInt.toNat := rfl
      have h0 : (0 : Int32).toInt = 0 := rfl
      omega
    exact bX11_part_111 hS ⟨fun _ => hq M ⟨fun _ _ => rfl, h1, h2⟩, fun h => absurd h3 h⟩
  | n + 1, x4, M, h, h1, h2, hq => by
    have e : x4.toNatClampNeg = x4.toInt.toNat := rfl
    have h0 : (0 : Int32).toInt = 0 := rfl
    have h3 : ¬ x4 ≤ 0 := by
      rw [fa_le]
      omega
    refine bX11_part_111 hS ⟨fun h => absurd h h3, fun _ => ?_⟩
    have e1 : p_best (mJ M (a + 14)) 1 = 0 := by
      have : p_best (mJ M (a + 14)) 1 < 1 := p_best_lt (mJ M (a + 14)) 0
      omega
    suffices hh : Wv G m_X11_part d 122 [(0, .ref a), (4, .int x4), (5, .int (nI (p_best (mJ M (a + 14)) 1))), (6, .int (nI 1))] [] X M Q by
      rw [e1] at hh
      exact hh
    refine cl_part_122 G d hS (M := M) 4 1 rfl (Nat.le_refl _) ?_
    obtain ⟨k, hk, rfl⟩ := nI_of (x := x4) (i_nlt.mpr (Int32.le_of_lt (i_nle.mp h3)))
    rw [nI_clamp hk] at h
    subst h
    rw [pk_m1]
    refine cl_part_111 G d hS M0 n (nI n) _ (nI_clamp (by omega)) (fun b hb => ?_) h2 (fun M2 h4 => hq M2 ?_)
    · rw [mI_sJ, mI_sI, up2_off _ _ _ hb]
      exact h1 b hb
    · rw [mI_sJ, mI_sI, mJ_sJ, mJ_sI, up2_row, up2_rowL] at h4
      exact h4
theorem cl_part_48 (G : Gl) (d : Nat) {X : Sh} {a : Nat} {Q : Mm → Prop} {x1 : Int32} {w : Nat → Int64} (hS : Sh10 X a) (M0 : Mm) (hA : ¬ s_sumL w 5 = 0)
    (hq : ∀ M2, PartQ M0 a (s_parts x1 w) M2 → Q M2) : ∀ (n i : Nat) (M : Mm), i + n = 5 → (∀ r, r < 5 → mJ M (a + 12) r = w r) → (∀ r, r < i → mI M (a + 13) r = p_base x1 w (s_sumL w 5) r) → (∀ r, r < i → mJ M (a + 14) r = p_rest x1 w (s_sumL w 5) r) → (∀ b, b ≠ a + 13 → mI M b = mI M0 b) → mR M = mR M0 →
    Wv G m_X11_part d 48 [(0, .ref a), (1, .int x1), (2, .long (s_sumL w 5)), (4, .int (p_left x1 w (s_sumL w 5) i)), (5, .int (nI i))] [] X M Q
  | 0, i, M, h, hw, hp, hr, h1, h2 => by
    have hi : i = 5 := h
    subst hi
    refine bX11_part_48 hS ⟨fun _ => ?_, fun h => absurd (by decide) h⟩
    refine cl_part_111 G d hS M0 _ _ M rfl h1 h2 (fun M2 h4 => hq M2 ⟨fun r hr5 => ?_, h4.2⟩)
    rw [h4.1 r hr5]
    unfold s_parts
    rw [if_neg hA]
    exact p_give_cong _ hp hr r hr5
  | n + 1, i, M, h, hw, hp, hr, h1, h2 => by
    refine bX11_part_48 hS ⟨fun h2 => absurd h2 (n5 (by omega)), fun _ => ⟨i, rfl, by omega, hA, ?_⟩⟩
    rintro M6 rfl
    refine ⟨hA, ?_⟩
    rintro M8 rfl
    rintro v9 rfl
    rw [nI_1]
    rw [mI_sJ, mI_sI, up2_same, mJ_sI, hw i (by omega)]
    refine cl_part_48 G d hS M0 hA hq n (i + 1) _ (by omega) (fun r hr5 => ?_) (fun r hri => ?_) (fun r hri => ?_) (fun b hb => ?_) h2
    · rw [mJ_sJ, mJ_sI, up2_off _ _ _ (by omega), hw r hr5]
    · rw [mI_sJ, mI_sI]
      by_cases hri2 : r = i
      · subst hri2
        rw [up2_same]
        rfl
      · rw [up2_k _ _ _ hri2]
        exact hp r (by omega)
    · rw [mJ_sJ, mJ_sI]
      by_cases hri2 : r = i
      · subst hri2
        rw [up2_same]
        rfl
      · rw [up2_k _ _ _ hri2]
        exact hr r (by omega)
    · rw [mI_sJ, mI_sI, up2_off _ _ _ hb]
      exact h1 b hb
theorem cl_part_8 (G : Gl) (d : Nat) {X : Sh} {a : Nat} {Q : Mm → Prop} {x1 : Int32} {w : Nat → Int64} (hS : Sh10 X a) (M0 : Mm)
    (hq : ∀ M2, PartQ M0 a (s_parts x1 w) M2 → Q M2) : ∀ (n i : Nat) (M : Mm), i + n = 5 → mJ M (a + 12) = w → (∀ r, r < i → mI M (a + 13) r = 0) → (∀ b, b ≠ a + 13 → mI M b = mI M0 b) → mR M = mR M0 →
    Wv G m_X11_part d 8 [(0, .ref a), (1, .int x1), (2, .long (s_sumL w i)), (4, .int x1), (5, .int (nI i))] [] X M Q
  | 0, i, M, h, hw, hp, h1, h2 => by
    have hi : i = 5 := h
    subst hi
    refine bX11_part_8 hS ⟨fun _ => ⟨fun h3 => ?_, fun h3 => ?_⟩, fun h => absurd (by decide) h⟩
    · rw [lg_cmp_eq] at h3
      exact cl_part_48 G d hS M0 h3 hq 5 0 M rfl (fun r _ => by rw [hw]) (fun r hr => absurd hr (by omega)) (fun r hr => absurd hr (by omega)) h1 h2
    · rw [lg_cmp_eq] at h3
      refine hq M ⟨fun r hr => ?_, h1, h2⟩
      rw [hp r hr]
      unfold s_parts
      rw [if_pos h3]
  | n + 1, i, M, h, hw, hp, h1, h2 => by
    refine bX11_part_8 hS ⟨fun h2 => absurd h2 (n5 (by omega)), fun _ => ⟨i, rfl, by omega, ?_⟩⟩
    rintro w6 rfl M7 rfl
    rw [nI_1, hw]
    refine cl_part_8 G d hS M0 hq n (i + 1) _ (by omega) hw (fun r hri => ?_) (fun b hb => ?_) h2
    · rw [mI_sI]
      by_cases hri2 : r = i
      · subst hri2
        rw [up2_same]
      · rw [up2_k _ _ _ hri2]
        exact hp r (by omega)
    · rw [mI_sI, up2_off _ _ _ hb]
      exact h1 b hb
theorem cp_X11_part (G : Gl) (d : Nat) (X : Sh) (M : Mm) (a : Nat) (x : Int32) (hS : Sh10 X a) : Cv G m_X11_part d [.ref a, .int x] X M (PartQ M a (s_parts x (mJ M (a + 12)))) := by
  refine Cv.of (by decide) (Nat.le_of_ble_eq_true rfl) (bX11_part_0 hS ?_)
  exact cl_part_8 G d hS M (fun _ h => h) 5 0 M rfl rfl (fun r hr => absurd hr (by omega)) (fun _ _ => rfl) rfl
