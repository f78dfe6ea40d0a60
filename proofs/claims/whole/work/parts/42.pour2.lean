/-! pour: the reference, and the call -/
/-- the flat row with other times of the ladles -/
def s_fill (σ : Nat → Int32) (nd : Nat) (ρ : Nat → Int32) : Nat → Int32 := fun k => if 321 ≤ k ∧ k < 321 + 2 * nd ∧ k % 2 = 1 then ρ ((k - 321) / 2) else σ k
theorem s_fill_at {σ ρ : Nat → Int32} {nd i : Nat} (h : i < nd) : s_fill σ nd ρ (321 + 2 * i) = ρ i := by
  unfold s_fill
  rw [if_pos (by omega)]
  congr 1
  omega
theorem s_fill_o {σ ρ : Nat → Int32} {nd k : Nat} (h : k < 321 ∨ 321 + 2 * nd ≤ k ∨ k % 2 = 0) : s_fill σ nd ρ k = σ k := if_neg (by omega)
theorem s_fill_own (σ : Nat → Int32) (nd : Nat) : s_fill σ nd (fun i => σ (321 + 2 * i)) = σ := by
  funext k
  unfold s_fill
  by_cases h : 321 ≤ k ∧ k < 321 + 2 * nd ∧ k % 2 = 1
  · rw [if_pos h]
    exact congrArg σ (by omega)
  · rw [if_neg h]
theorem s_fill_upd {σ ρ : Nat → Int32} {nd j : Nat} {v : Int32} (h : j < nd) : upd (s_fill σ nd ρ) (321 + 2 * j) v = s_fill σ nd (upd ρ j v) := by
  funext k
  unfold s_fill upd
  by_cases e : k = 321 + 2 * j
  · subst e
    rw [if_pos rfl, if_pos (by omega), if_pos (by omega)]
  · rw [if_neg e]
    show (if 321 ≤ k ∧ k < 321 + 2 * nd ∧ k % 2 = 1 then ρ ((k - 321) / 2) else σ k) = _
    by_cases h2 : 321 ≤ k ∧ k < 321 + 2 * nd ∧ k % 2 = 1
    · rw [if_pos h2, if_pos h2, if_neg (by omega)]
    · rw [if_neg h2, if_neg h2]
theorem bX11_pour_0 {G : Gl} {d : Nat} {X : Sh} {M : Mm} {Q : Mm → Int32 → Prop} {a : Nat} {x1 : Int32} {x2 : Int32} (hS : Sh10 X a) (h : ((¬ (1 ≤ x1 ∧ x1 ≤ 9999) → Q M (-1000000001)) ∧ (1 ≤ x1 ∧ x1 ≤ 9999 → ((0 ≤ x2 ∧ x2 ≤ 9999 → (((mI M (a + 1) 4) = 0 → Q M (-1000000002)) ∧ (¬ ((mI M (a + 1) 4) = 0) → ((x1 ≤ (mI M (a + 1) 9) → (∃ q5 : Mm → Prop, Cv G m_X11_castOut d [.ref a, .int x1] X M q5 ∧ ∀ M7, q5 M7 → Wn G m_X11_pour (d + 1) 66 [(0, .ref a), (3, .int x2), (4, .int 0), (5, .int 0), (6, .int x1)] [] X M7 Q)) ∧ (¬ (x1 ≤ (mI M (a + 1) 9)) → Q M (-1000000002)))))) ∧ (¬ (0 ≤ x2 ∧ x2 ≤ 9999) → Q M (-1000000001)))))) : Wn G m_X11_pour (d + 1) 0 [(0, .ref a), (1, .int x1), (2, .int x2)] [] X M Q := by
  refine wp_iload_n 1 dX11_pour_0 rfl rfl ?_
  refine wp_i2l dX11_pour_1 ?_
  refine wp_lconst (v := 1) dX11_pour_2 rfl ?_
  refine wp_ldc2 dX11_pour_3 kc_RX11_98 ?_
  refine wp_csip dX11_pour_6 ck_RX11_78 rfl (as := [.long x1.toInt64, .long 1, .long 9999]) rfl rfl (Nat.le_of_ble_eq_true rfl) (cp_X11_isIn G d X M x1 1 9999 (by decide) (by decide)) ?_
  refine wp_ifB_eq (inferInstance) (tgt := 24) dX11_pour_9 (by decide) (fun c1 => ?_) (fun c1 => ?_)
  · replace h := h.1 c1
    refine wp_ldc dX11_pour_24 kc_RX11_100 ?_
    exact wn_iret dX11_pour_26 rfl h
  · replace h := h.2 c1
    refine wp_iload_n 2 dX11_pour_12 rfl rfl ?_
    refine wp_i2l dX11_pour_13 ?_
    refine wp_lconst (v := 0) dX11_pour_14 rfl ?_
    refine wp_ldc2 dX11_pour_15 kc_RX11_98 ?_
    refine wp_csip dX11_pour_18 ck_RX11_78 rfl (as := [.long x2.toInt64, .long 0, .long 9999]) rfl rfl (Nat.le_of_ble_eq_true rfl) (cp_X11_isIn G d X M x2 0 9999 (by decide) (by decide)) ?_
    refine wp_ifB_ne (inferInstance) (tgt := 27) dX11_pour_21 (by decide) (fun c2 => ?_) (fun c2 => ?_)
    · replace h := h.1 c2
      refine wp_aload_n 0 dX11_pour_27 rfl rfl ?_
      refine wp_getR dX11_pour_28 fl_RX11_7 rfl (sh10_K hS) (sh10_F_s hS) ?_
      refine wp_iconst (v := 4) dX11_pour_31 rfl ?_
      refine wp_iald (n := 2950) dX11_pour_32 (sh10_K_s hS) (sh10_N_s hS) (by decide) rfl (by decide) ?_
      refine wp_if_eq (tgt := 47) dX11_pour_33 (by decide) (fun c3 => ?_) (fun c3 => ?_)
      · replace h := h.1 c3
        refine wp_ldc dX11_pour_47 kc_RX11_153 ?_
        exact wn_iret dX11_pour_49 rfl h
      · replace h := h.2 c3
        refine wp_aload_n 0 dX11_pour_36 rfl rfl ?_
        refine wp_getR dX11_pour_37 fl_RX11_7 rfl (sh10_K hS) (sh10_F_s hS) ?_
        refine wp_bipush (v := 9) dX11_pour_40 rfl ?_
        refine wp_iald (n := 2950) dX11_pour_42 (sh10_K_s hS) (sh10_N_s hS) (by decide) rfl (by decide) ?_
        refine wp_iload_n 1 dX11_pour_43 rfl rfl ?_
        refine wp_icmp_ge (tgt := 50) dX11_pour_44 (by decide) (fun c4 => ?_) (fun c4 => ?_)
        · replace h := h.1 c4
          refine wp_aload_n 0 dX11_pour_50 rfl rfl ?_
          refine wp_iload_n 1 dX11_pour_51 rfl rfl ?_
          obtain ⟨q5, o6, h⟩ := h
          refine wp_cvv dX11_pour_52 ck_RX11_209 (sh10_K hS) (as := [.int x1]) rfl rfl (Nat.le_of_ble_eq_true rfl) o6 (fun M7 o8 => ?_)
          replace h := h M7 o8
          refine wp_iload_n 2 dX11_pour_55 rfl rfl ?_
          refine wp_istore_n (lo2 := [(3, .int _), (0, .ref _), (1, .int _), (2, .int _)]) dX11_pour_56 rfl (by decide) rfl ?_
          refine wp_iconst (v := 0) dX11_pour_57 rfl ?_
          refine wp_istore (lo2 := [(4, .int _), (3, .int _), (0, .ref _), (1, .int _), (2, .int _)]) dX11_pour_58 (by decide) rfl ?_
          refine wp_iconst (v := 0) dX11_pour_60 rfl ?_
          refine wp_istore (lo2 := [(5, .int _), (4, .int _), (3, .int _), (0, .ref _), (1, .int _), (2, .int _)]) dX11_pour_61 (by decide) rfl ?_
          refine wp_iload_n 4 dX11_pour_63 rfl rfl ?_
          refine wp_istore (lo2 := [(6, .int _), (5, .int _), (4, .int _), (3, .int _), (0, .ref _), (1, .int _), (2, .int _)]) dX11_pour_64 (by decide) rfl ?_
          exact Wp.sub [4, 3, 2, 1, 0] rfl h
        · replace h := h.2 c4
          refine wp_ldc dX11_pour_47 kc_RX11_153 ?_
          exact wn_iret dX11_pour_49 rfl h
    · replace h := h.2 c2
      refine wp_ldc dX11_pour_24 kc_RX11_100 ?_
      exact wn_iret dX11_pour_26 rfl h
theorem bX11_pour_66 {G : Gl} {d : Nat} {X : Sh} {M : Mm} {Q : Mm → Int32 → Prop} {a : Nat} {x3 : Int32} {x4 : Int32} {x5 : Int32} {x6 : Int32} (hS : Sh10 X a) (h : ((x6 ≤ 0 → (∃ q2 : Mm → Int32 → Prop, Cn G m_X11_counts d [.ref a, .int 7] X M q2 ∧ ∀ M4 r5, q2 M4 r5 → (∀ M7 : Mm, M7 = sI M4 (a + 18) 104 (mI M4 (a + 1) 5) → (∀ M8 : Mm, M8 = sI M7 (a + 18) 99 x5 → ((0 ≤ r5 → (∃ q10 : Mm → Int32 → Prop, Cn G m_X11_worked d [.ref a, .int r5] X M8 q10 ∧ ∀ M12 r13, q10 M12 r13 → Q M12 (x4 + (f_heldIn r13 999)))) ∧ (¬ (0 ≤ r5) → Q M8 (x4 + 0))))))) ∧ (¬ (x6 ≤ 0) → Wn G m_X11_pour (d + 1) 77 [(0, .ref a), (3, .int x3), (4, .int x4), (5, .int x5), (6, .int x6), (7, .int 0), (8, .int 1)] [] X M Q))) : Wn G m_X11_pour (d + 1) 66 [(0, .ref a), (3, .int x3), (4, .int x4), (5, .int x5), (6, .int x6)] [] X M Q := by
  refine wp_iload 4 dX11_pour_66 rfl ?_
  refine wp_if_le (tgt := 228) dX11_pour_68 (by decide) (fun c1 => ?_) (fun c1 => ?_)
  · replace h := h.1 c1
    refine wp_aload_n 0 dX11_pour_228 rfl rfl ?_
    refine wp_bipush (v := 7) dX11_pour_229 rfl ?_
    obtain ⟨q2, o3, h⟩ := h
    refine wp_cvi dX11_pour_231 ck_RX11_165 (sh10_K hS) (as := [.int 7]) rfl rfl (Nat.le_of_ble_eq_true rfl) o3 (fun M4 r5 o6 => ?_)
    replace h := h M4 r5 o6
    refine wp_istore (lo2 := [(6, .int _), (0, .ref _), (3, .int _), (4, .int _), (5, .int _)]) dX11_pour_234 (by decide) rfl ?_
    refine wp_aload_n 1 dX11_pour_236 rfl rfl ?_
    refine wp_getR dX11_pour_237 fl_RX11_62 rfl (sh10_K hS) (sh10_F_named hS) ?_
    refine wp_bipush (v := 104) dX11_pour_240 rfl ?_
    refine wp_aload_n 1 dX11_pour_242 rfl rfl ?_
    refine wp_getR dX11_pour_243 fl_RX11_7 rfl (sh10_K hS) (sh10_F_s hS) ?_
    refine wp_iconst (v := 5) dX11_pour_246 rfl ?_
    refine wp_iald (n := 2950) dX11_pour_247 (sh10_K_s hS) (sh10_N_s hS) (by decide) rfl (by decide) ?_
    refine wp_iast (n := 128) dX11_pour_248 (sh10_K_named hS) (sh10_N_named hS) (by decide) rfl (by decide) ?_
    refine wp_nm (fun M7 eM7 => ?_)
    replace h := h M7 eM7
    refine wp_aload_n 1 dX11_pour_249 rfl rfl ?_
    refine wp_getR dX11_pour_250 fl_RX11_62 rfl (sh10_K hS) (sh10_F_named hS) ?_
    refine wp_bipush (v := 99) dX11_pour_253 rfl ?_
    refine wp_iload 4 dX11_pour_255 rfl ?_
    refine wp_iast (n := 128) dX11_pour_257 (sh10_K_named hS) (sh10_N_named hS) (by decide) rfl (by decide) ?_
    refine wp_nm (fun M8 eM8 => ?_)
    replace h := h M8 eM8
    refine wp_iload 3 dX11_pour_258 rfl ?_
    refine wp_iload 0 dX11_pour_260 rfl ?_
    refine wp_if_ge (tgt := 269) dX11_pour_262 (by decide) (fun c9 => ?_) (fun c9 => ?_)
    · replace h := h.1 c9
      refine wp_aload_n 1 dX11_pour_269 rfl rfl ?_
      refine wp_iload 0 dX11_pour_270 rfl ?_
      obtain ⟨q10, o11, h⟩ := h
      refine wp_cvi dX11_pour_272 ck_RX11_172 (sh10_K hS) (as := [.int r5]) rfl rfl (Nat.le_of_ble_eq_true rfl) o11 (fun M12 r13 o14 => ?_)
      replace h := h M12 r13 o14
      refine wp_sipush (v := 999) dX11_pour_275 rfl ?_
      refine wp_csip dX11_pour_278 ck_RX11_175 rfl (as := [.int r13, .int 999]) rfl rfl (Nat.le_of_ble_eq_true rfl) (cp_X11_heldIn G d X M12 r13 999) ?_
      refine wp_iadd dX11_pour_281 ?_
      exact wn_iret dX11_pour_282 rfl h
    · replace h := h.2 c9
      refine wp_iconst (v := 0) dX11_pour_265 rfl ?_
      refine wp_goto (tgt := 281) dX11_pour_266 (by decide) ?_
      refine wp_iadd dX11_pour_281 ?_
      exact wn_iret dX11_pour_282 rfl h
  · replace h := h.2 c1
    refine wp_iconst (v := 0) dX11_pour_71 rfl ?_
    refine wp_istore (lo2 := [(7, .int _), (0, .ref _), (3, .int _), (4, .int _), (5, .int _), (6, .int _)]) dX11_pour_72 (by decide) rfl ?_
    refine wp_iconst (v := 1) dX11_pour_74 rfl ?_
    refine wp_istore (lo2 := [(8, .int _), (7, .int _), (0, .ref _), (3, .int _), (4, .int _), (5, .int _), (6, .int _)]) dX11_pour_75 (by decide) rfl ?_
    exact Wp.sub [2, 3, 4, 5, 6, 1, 0] rfl h
theorem bX11_pour_77 {G : Gl} {d : Nat} {X : Sh} {M : Mm} {Q : Mm → Int32 → Prop} {a : Nat} {x3 : Int32} {x4 : Int32} {x5 : Int32} {x6 : Int32} {x7 : Int32} {x8 : Int32} (hS : Sh10 X a) (h : (((mI M (a + 1) 4) ≤ x8 → (∀ v2 : Int32, v2 = (320 + 2 * x7) → (∃ j3 : Nat, (v2 + 1) = nI j3 ∧ j3 < 2950 ∧ (((mI M (a + 1) j3) ≤ x3 → (∃ j7 : Nat, v2 = nI j7 ∧ j7 < 2950 ∧ (∀ v10 : Int32, v10 = (if (mI M (a + 1) j7) ≤ x6 then (mI M (a + 1) j7) else x6) → (∀ v11 : Int32, v11 = (x4 + (x3 - x3)) → (∀ v12 : Int32, v12 = (x3 + v10) → (∀ M13 : Mm, M13 = sI M (a + 1) j3 (v12 + (mI M (a + 1) 8)) → (∀ v14 : Int32, v14 = (x6 - v10) → Wn G m_X11_pour (d + 1) 66 [(0, .ref a), (3, .int v12), (4, .int v11), (5, .int (x5 + 1)), (6, .int v14)] [] X M13 Q))))))) ∧ (¬ ((mI M (a + 1) j3) ≤ x3) → (∀ v15 : Int32, v15 = (mI M (a + 1) j3) → (∃ j16 : Nat, v2 = nI j16 ∧ j16 < 2950 ∧ (∀ v19 : Int32, v19 = (if (mI M (a + 1) j16) ≤ x6 then (mI M (a + 1) j16) else x6) → (∀ v20 : Int32, v20 = (x4 + (v15 - x3)) → (∀ v21 : Int32, v21 = (v15 + v19) → (∀ M22 : Mm, M22 = sI M (a + 1) j3 (v21 + (mI M (a + 1) 8)) → (∀ v23 : Int32, v23 = (x6 - v19) → Wn G m_X11_pour (d + 1) 66 [(0, .ref a), (3, .int v21), (4, .int v20), (5, .int (x5 + 1)), (6, .int v23)] [] X M22 Q)))))))))))) ∧ (¬ ((mI M (a + 1) 4) ≤ x8) → (∃ j24 : Nat, ((320 + 2 * x8) + 1) = nI j24 ∧ j24 < 2950 ∧ (∃ j27 : Nat, ((320 + 2 * x7) + 1) = nI j27 ∧ j27 < 2950 ∧ (∀ v32 : Int32, v32 = (if (mI M (a + 1) j27) ≤ (mI M (a + 1) j24) then x7 else x8) → Wn G m_X11_pour (d + 1) 77 [(0, .ref a), (3, .int x3), (4, .int x4), (5, .int x5), (6, .int x6), (7, .int v32), (8, .int (x8 + 1))] [] X M Q)))))) : Wn G m_X11_pour (d + 1) 77 [(0, .ref a), (3, .int x3), (4, .int x4), (5, .int x5), (6, .int x6), (7, .int x7), (8, .int x8)] [] X M Q := by
  refine wp_iload 6 dX11_pour_77 rfl ?_
  refine wp_aload_n 0 dX11_pour_79 rfl rfl ?_
  refine wp_getR dX11_pour_80 fl_RX11_7 rfl (sh10_K hS) (sh10_F_s hS) ?_
  refine wp_iconst (v := 4) dX11_pour_83 rfl ?_
  refine wp_iald (n := 2950) dX11_pour_84 (sh10_K_s hS) (sh10_N_s hS) (by decide) rfl (by decide) ?_
  refine wp_icmp_ge (tgt := 132) dX11_pour_85 (by decide) (fun c1 => ?_) (fun c1 => ?_)
  · replace h := h.1 c1
    refine wp_aload_n 0 dX11_pour_132 rfl rfl ?_
    refine wp_iload 5 dX11_pour_133 rfl ?_
    refine wp_cvip dX11_pour_135 ck_RX11_320 (sh10_K hS) (as := [.int x7]) rfl rfl (Nat.le_of_ble_eq_true rfl) (cp_X11_ladleAt G d X M a x7 hS) ?_
    refine wp_topi (fun v2 ev2 => ?_)
    replace h := h v2 ev2
    refine wp_istore (lo2 := [(8, .int _), (0, .ref _), (3, .int _), (4, .int _), (5, .int _), (6, .int _), (7, .int _)]) dX11_pour_138 (by decide) rfl ?_
    refine wp_aload_n 1 dX11_pour_140 rfl rfl ?_
    refine wp_getR dX11_pour_141 fl_RX11_7 rfl (sh10_K hS) (sh10_F_s hS) ?_
    refine wp_iload 0 dX11_pour_144 rfl ?_
    refine wp_iconst (v := 1) dX11_pour_146 rfl ?_
    refine wp_iadd dX11_pour_147 ?_
    obtain ⟨j3, o4, o5, h⟩ := h
    refine wp_iald (n := 2950) dX11_pour_148 (sh10_K_s hS) (sh10_N_s hS) (by decide) o4 o5 ?_
    refine wp_iload_n 2 dX11_pour_149 rfl rfl ?_
    refine wp_icmp_le (tgt := 165) dX11_pour_150 (by decide) (fun c6 => ?_) (fun c6 => ?_)
    · replace h := h.1 c6
      refine wp_iload_n 2 dX11_pour_165 rfl rfl ?_
      refine wp_istore (lo2 := [(9, .int _), (8, .int _), (0, .ref _), (3, .int _), (4, .int _), (5, .int _), (6, .int _), (7, .int _)]) dX11_pour_166 (by decide) rfl ?_
      refine wp_iload 6 dX11_pour_168 rfl ?_
      refine wp_aload_n 2 dX11_pour_170 rfl rfl ?_
      refine wp_getR dX11_pour_171 fl_RX11_7 rfl (sh10_K hS) (sh10_F_s hS) ?_
      refine wp_iload 1 dX11_pour_174 rfl ?_
      obtain ⟨j7, o8, o9, h⟩ := h
      refine wp_iald (n := 2950) dX11_pour_176 (sh10_K_s hS) (sh10_N_s hS) (by decide) o8 o9 ?_
      refine wp_csip dX11_pour_177 ck_RX11_190 rfl (as := [.int x6, .int ((mI M (a + 1) j7))]) rfl rfl (Nat.le_of_ble_eq_true rfl) (cp_X11_least G d X M x6 (mI M (a + 1) j7)) ?_
      refine wp_topi (fun v10 ev10 => ?_)
      replace h := h v10 ev10
      refine wp_istore (lo2 := [(10, .int _), (9, .int _), (8, .int _), (0, .ref _), (3, .int _), (4, .int _), (5, .int _), (6, .int _), (7, .int _)]) dX11_pour_180 (by decide) rfl ?_
      refine wp_iload 5 dX11_pour_182 rfl ?_
      refine wp_iload 1 dX11_pour_184 rfl ?_
      refine wp_iload_n 4 dX11_pour_186 rfl rfl ?_
      refine wp_isub dX11_pour_187 ?_
      refine wp_iadd dX11_pour_188 ?_
      refine wp_topi (fun v11 ev11 => ?_)
      replace h := h v11 ev11
      refine wp_istore (lo2 := [(4, .int _), (10, .int _), (9, .int _), (8, .int _), (0, .ref _), (3, .int _), (5, .int _), (6, .int _), (7, .int _)]) dX11_pour_189 (by decide) rfl ?_
      refine wp_iload 2 dX11_pour_191 rfl ?_
      refine wp_iload 1 dX11_pour_193 rfl ?_
      refine wp_iadd dX11_pour_195 ?_
      refine wp_topi (fun v12 ev12 => ?_)
      replace h := h v12 ev12
      refine wp_istore_n (lo2 := [(3, .int _), (4, .int _), (10, .int _), (9, .int _), (8, .int _), (0, .ref _), (5, .int _), (6, .int _), (7, .int _)]) dX11_pour_196 rfl (by decide) rfl ?_
      refine wp_aload_n 5 dX11_pour_197 rfl rfl ?_
      refine wp_getR dX11_pour_198 fl_RX11_7 rfl (sh10_K hS) (sh10_F_s hS) ?_
      refine wp_iload 4 dX11_pour_201 rfl ?_
      refine wp_iconst (v := 1) dX11_pour_203 rfl ?_
      refine wp_iadd dX11_pour_204 ?_
      refine wp_iload_n 0 dX11_pour_205 rfl rfl ?_
      refine wp_aload_n 5 dX11_pour_206 rfl rfl ?_
      refine wp_getR dX11_pour_207 fl_RX11_7 rfl (sh10_K hS) (sh10_F_s hS) ?_
      refine wp_bipush (v := 8) dX11_pour_210 rfl ?_
      refine wp_iald (n := 2950) dX11_pour_212 (sh10_K_s hS) (sh10_N_s hS) (by decide) rfl (by decide) ?_
      refine wp_iadd dX11_pour_213 ?_
      refine wp_iast (n := 2950) dX11_pour_214 (sh10_K_s hS) (sh10_N_s hS) (by decide) o4 o5 ?_
      refine wp_nm (fun M13 eM13 => ?_)
      replace h := h M13 eM13
      refine wp_iload 7 dX11_pour_215 rfl ?_
      refine wp_iload 2 dX11_pour_217 rfl ?_
      refine wp_isub dX11_pour_219 ?_
      refine wp_topi (fun v14 ev14 => ?_)
      replace h := h v14 ev14
      refine wp_istore (lo2 := [(6, .int _), (3, .int _), (4, .int _), (10, .int _), (9, .int _), (8, .int _), (0, .ref _), (5, .int _), (7, .int _)]) dX11_pour_220 (by decide) rfl ?_
      refine wp_iinc (v := x5 + 1) (lo2 := [(5, .int _), (6, .int _), (3, .int _), (4, .int _), (10, .int _), (9, .int _), (8, .int _), (0, .ref _), (7, .int _)]) dX11_pour_222 (q := 7) rfl rfl (by decide) rfl ?_
      refine wp_goto (tgt := 66) dX11_pour_225 (by decide) ?_
      exact Wp.sub [7, 2, 3, 0, 1] rfl h
    · replace h := h.2 c6
      refine wp_aload_n 1 dX11_pour_153 rfl rfl ?_
      refine wp_getR dX11_pour_154 fl_RX11_7 rfl (sh10_K hS) (sh10_F_s hS) ?_
      refine wp_iload 0 dX11_pour_157 rfl ?_
      refine wp_iconst (v := 1) dX11_pour_159 rfl ?_
      refine wp_iadd dX11_pour_160 ?_
      refine wp_iald (n := 2950) dX11_pour_161 (sh10_K_s hS) (sh10_N_s hS) (by decide) o4 o5 ?_
      refine wp_goto (tgt := 166) dX11_pour_162 (by decide) ?_
      refine wp_topi (fun v15 ev15 => ?_)
      replace h := h v15 ev15
      refine wp_istore (lo2 := [(9, .int _), (8, .int _), (0, .ref _), (3, .int _), (4, .int _), (5, .int _), (6, .int _), (7, .int _)]) dX11_pour_166 (by decide) rfl ?_
      refine wp_iload 6 dX11_pour_168 rfl ?_
      refine wp_aload_n 2 dX11_pour_170 rfl rfl ?_
      refine wp_getR dX11_pour_171 fl_RX11_7 rfl (sh10_K hS) (sh10_F_s hS) ?_
      refine wp_iload 1 dX11_pour_174 rfl ?_
      obtain ⟨j16, o17, o18, h⟩ := h
      refine wp_iald (n := 2950) dX11_pour_176 (sh10_K_s hS) (sh10_N_s hS) (by decide) o17 o18 ?_
      refine wp_csip dX11_pour_177 ck_RX11_190 rfl (as := [.int x6, .int ((mI M (a + 1) j16))]) rfl rfl (Nat.le_of_ble_eq_true rfl) (cp_X11_least G d X M x6 (mI M (a + 1) j16)) ?_
      refine wp_topi (fun v19 ev19 => ?_)
      replace h := h v19 ev19
      refine wp_istore (lo2 := [(10, .int _), (9, .int _), (8, .int _), (0, .ref _), (3, .int _), (4, .int _), (5, .int _), (6, .int _), (7, .int _)]) dX11_pour_180 (by decide) rfl ?_
      refine wp_iload 5 dX11_pour_182 rfl ?_
      refine wp_iload 1 dX11_pour_184 rfl ?_
      refine wp_iload_n 4 dX11_pour_186 rfl rfl ?_
      refine wp_isub dX11_pour_187 ?_
      refine wp_iadd dX11_pour_188 ?_
      refine wp_topi (fun v20 ev20 => ?_)
      replace h := h v20 ev20
      refine wp_istore (lo2 := [(4, .int _), (10, .int _), (9, .int _), (8, .int _), (0, .ref _), (3, .int _), (5, .int _), (6, .int _), (7, .int _)]) dX11_pour_189 (by decide) rfl ?_
      refine wp_iload 2 dX11_pour_191 rfl ?_
      refine wp_iload 1 dX11_pour_193 rfl ?_
      refine wp_iadd dX11_pour_195 ?_
      refine wp_topi (fun v21 ev21 => ?_)
      replace h := h v21 ev21
      refine wp_istore_n (lo2 := [(3, .int _), (4, .int _), (10, .int _), (9, .int _), (8, .int _), (0, .ref _), (5, .int _), (6, .int _), (7, .int _)]) dX11_pour_196 rfl (by decide) rfl ?_
      refine wp_aload_n 5 dX11_pour_197 rfl rfl ?_
      refine wp_getR dX11_pour_198 fl_RX11_7 rfl (sh10_K hS) (sh10_F_s hS) ?_
      refine wp_iload 4 dX11_pour_201 rfl ?_
      refine wp_iconst (v := 1) dX11_pour_203 rfl ?_
      refine wp_iadd dX11_pour_204 ?_
      refine wp_iload_n 0 dX11_pour_205 rfl rfl ?_
      refine wp_aload_n 5 dX11_pour_206 rfl rfl ?_
      refine wp_getR dX11_pour_207 fl_RX11_7 rfl (sh10_K hS) (sh10_F_s hS) ?_
      refine wp_bipush (v := 8) dX11_pour_210 rfl ?_
      refine wp_iald (n := 2950) dX11_pour_212 (sh10_K_s hS) (sh10_N_s hS) (by decide) rfl (by decide) ?_
      refine wp_iadd dX11_pour_213 ?_
      refine wp_iast (n := 2950) dX11_pour_214 (sh10_K_s hS) (sh10_N_s hS) (by decide) o4 o5 ?_
      refine wp_nm (fun M22 eM22 => ?_)
      replace h := h M22 eM22
      refine wp_iload 7 dX11_pour_215 rfl ?_
      refine wp_iload 2 dX11_pour_217 rfl ?_
      refine wp_isub dX11_pour_219 ?_
      refine wp_topi (fun v23 ev23 => ?_)
      replace h := h v23 ev23
      refine wp_istore (lo2 := [(6, .int _), (3, .int _), (4, .int _), (10, .int _), (9, .int _), (8, .int _), (0, .ref _), (5, .int _), (7, .int _)]) dX11_pour_220 (by decide) rfl ?_
      refine wp_iinc (v := x5 + 1) (lo2 := [(5, .int _), (6, .int _), (3, .int _), (4, .int _), (10, .int _), (9, .int _), (8, .int _), (0, .ref _), (7, .int _)]) dX11_pour_222 (q := 7) rfl rfl (by decide) rfl ?_
      refine wp_goto (tgt := 66) dX11_pour_225 (by decide) ?_
      exact Wp.sub [7, 2, 3, 0, 1] rfl h
  · replace h := h.2 c1
    refine wp_aload_n 0 dX11_pour_88 rfl rfl ?_
    refine wp_getR dX11_pour_89 fl_RX11_7 rfl (sh10_K hS) (sh10_F_s hS) ?_
    refine wp_aload_n 0 dX11_pour_92 rfl rfl ?_
    refine wp_iload 6 dX11_pour_93 rfl ?_
    refine wp_cvip dX11_pour_95 ck_RX11_320 (sh10_K hS) (as := [.int x8]) rfl rfl (Nat.le_of_ble_eq_true rfl) (cp_X11_ladleAt G d X M a x8 hS) ?_
    refine wp_iconst (v := 1) dX11_pour_98 rfl ?_
    refine wp_iadd dX11_pour_99 ?_
    obtain ⟨j24, o25, o26, h⟩ := h
    refine wp_iald (n := 2950) dX11_pour_100 (sh10_K_s hS) (sh10_N_s hS) (by decide) o25 o26 ?_
    refine wp_aload_n 0 dX11_pour_101 rfl rfl ?_
    refine wp_getR dX11_pour_102 fl_RX11_7 rfl (sh10_K hS) (sh10_F_s hS) ?_
    refine wp_aload_n 0 dX11_pour_105 rfl rfl ?_
    refine wp_iload 5 dX11_pour_106 rfl ?_
    refine wp_cvip dX11_pour_108 ck_RX11_320 (sh10_K hS) (as := [.int x7]) rfl rfl (Nat.le_of_ble_eq_true rfl) (cp_X11_ladleAt G d X M a x7 hS) ?_
    refine wp_iconst (v := 1) dX11_pour_111 rfl ?_
    refine wp_iadd dX11_pour_112 ?_
    obtain ⟨j27, o28, o29, h⟩ := h
    refine wp_iald (n := 2950) dX11_pour_113 (sh10_K_s hS) (sh10_N_s hS) (by decide) o28 o29 ?_
    have K31 : Wp G m_X11_pour (d + 1) 0 0 0 0 124 [(0, .ref a), (3, .int x3), (4, .int x4), (5, .int x5), (6, .int x6), (7, .int x7), (8, .int x8)] [.int ((if (mI M (a + 1) j27) ≤ (mI M (a + 1) j24) then x7 else x8))] X M (fun X2 M2 v => X2 = X ∧ ∃ x, v = some (.int x) ∧ Q M2 x) := by
      refine wp_topi (fun v32 ev32 => ?_)
      replace h := h v32 ev32
      refine wp_istore (lo2 := [(7, .int _), (0, .ref _), (3, .int _), (4, .int _), (5, .int _), (6, .int _), (8, .int _)]) dX11_pour_124 (by decide) rfl ?_
      refine wp_iinc (v := x8 + 1) (lo2 := [(8, .int _), (7, .int _), (0, .ref _), (3, .int _), (4, .int _), (5, .int _), (6, .int _)]) dX11_pour_126 (q := 6) rfl rfl (by decide) rfl ?_
      refine wp_goto (tgt := 77) dX11_pour_129 (by decide) ?_
      exact Wp.sub [2, 3, 4, 5, 6, 1, 0] rfl h
    refine wp_icmp_ge (tgt := 122) dX11_pour_114 (by decide) (fun c30 => ?_) (fun c30 => ?_)
    · refine wp_iload 5 dX11_pour_122 rfl ?_
      rw [if_pos c30] at K31
      exact K31
    · refine wp_iload 6 dX11_pour_117 rfl ?_
      refine wp_goto (tgt := 124) dX11_pour_119 (by decide) ?_
      rw [if_neg c30] at K31
      exact K31
theorem cl_pour_77 (G : Gl) (d : Nat) {X : Sh} {m nd : Nat} {x3 x4 x5 x6 : Int32} {σ ρ : Nat → Int32} {Q : Mm → Int32 → Prop} {M : Mm} (hM : Sh10 X m) (hs : mI M (m + 1) = s_fill σ nd ρ) (h4 : σ 4 = nI nd) (h6 : nd ≤ 6) (hk : Wn G m_X11_pour (d + 1) 77 [(0, .ref m), (3, .int x3), (4, .int x4), (5, .int x5), (6, .int x6), (7, .int (nI (s_first ρ nd))), (8, .int (nI nd))] [] X M Q) :
    ∀ n i : Nat, i + n = nd → 1 ≤ i → Wn G m_X11_pour (d + 1) 77 [(0, .ref m), (3, .int x3), (4, .int x4), (5, .int x5), (6, .int x6), (7, .int (nI (s_first ρ i))), (8, .int (nI i))] [] X M Q
  | 0, i, h, _ => by
    have hi : i = nd := h
    subst hi
    exact hk
  | n + 1, i, h, h1 => by
    obtain ⟨i2, rfl⟩ : ∃ i2, i = i2 + 1 := ⟨i - 1, by omega⟩
    have hb := s_first_lt ρ i2
    have ih := cl_pour_77 G d hM hs h4 h6 hk n (i2 + 1 + 1) (by omega) (by omega)
    refine bX11_pour_77 hM ⟨fun h2 => ?_, fun _ => ⟨321 + 2 * (i2 + 1), (by first | rfl | (simp only [n_lit, nI_add, pk_mul]; done) | (simp only [n_lit, nI_add, pk_mul]; exact congrArg nI (by omega))), by omega, 321 + 2 * s_first ρ (i2 + 1), (by first | rfl | (simp only [n_lit, nI_add, pk_mul]; done) | (simp only [n_lit, nI_add, pk_mul]; exact congrArg nI (by omega))), by omega, ?_⟩⟩
    · rw [hs, s_fill_o (by omega), h4] at h2
      have := (nI_leI (by omega) (by omega)).mp h2
      omega
    · intro v32 e32
      rw [hs, s_fill_at (by omega), s_fill_at (by omega)] at e32
      have e : v32 = nI (s_first ρ (i2 + 1 + 1)) := by
        rw [e32]
        show _ = nI (if ρ (s_first ρ (i2 + 1)) ≤ ρ (i2 + 1) then s_first ρ (i2 + 1) else i2 + 1)
        split <;> rfl
      rw [e, nI_1]
      exact ih
theorem cl_pour_66 (G : Gl) (d : Nat) {X : Sh} {m nd : Nat} {cap σ : Nat → Int32} {Q : Mm → Int32 → Prop} (hM : Sh10 X m) (h4 : σ 4 = nI nd) (h6 : nd ≤ 6) (h1 : 1 ≤ nd) (hC : Caps cap nd) (hc : ∀ i, i < nd → σ (320 + 2 * i) = cap i) (M0 : Mm) :
    ∀ (f L k : Nat) (time late : Int32) (ρ : Nat → Int32) (M : Mm), L ≤ f → L ≤ 9999 → mI M (m + 1) = s_fill σ nd ρ → (∀ c, c ≠ m + 1 → mI M c = mI M0 c) → mR M = mR M0 →
      (∀ M2 time2, mI M2 (m + 1) = s_fill σ nd (pf cap nd (σ 8) f (nI L) time late k ρ).2.2 → (∀ c, c ≠ m + 1 → mI M2 c = mI M0 c) → mR M2 = mR M0 → Wn G m_X11_pour (d + 1) 66 [(0, .ref m), (3, .int time2), (4, .int (pf cap nd (σ 8) f (nI L) time late k ρ).1), (5, .int (nI (pf cap nd (σ 8) f (nI L) time late k ρ).2.1)), (6, .int (nI 0))] [] X M2 Q) →
      Wn G m_X11_pour (d + 1) 66 [(0, .ref m), (3, .int time), (4, .int late), (5, .int (nI k)), (6, .int (nI L))] [] X M Q
  | 0, L, k, time, late, ρ, M, hL, hL2, hs, ho, hR, hq => by
    have e : L = 0 := by omega
    subst e
    exact hq M time hs ho hR
  | f + 1, L, k, time, late, ρ, M, hL, hL2, hs, ho, hR, hq => by
    by_cases h0 : L = 0
    · subst h0
      have e : pf cap nd (σ 8) (f + 1) (nI 0) time late k ρ = (late, k, ρ) := if_pos (Int32.le_refl _)
      rw [e] at hq
      exact hq M time hs ho hR
    · have hp : ¬ nI L ≤ 0 := fun q => by
        have := (nI_leI (b := 0) (by omega) (by omega)).mp q
        omega
      have e : pf cap nd (σ 8) (f + 1) (nI L) time late k ρ = pf cap nd (σ 8) f (nI L - pf_x cap (s_first ρ nd) (nI L)) (pf_b ρ (s_first ρ nd) time + pf_x cap (s_first ρ nd) (nI L)) (late + (pf_b ρ (s_first ρ nd) time - time)) (k + 1) (upd ρ (s_first ρ nd) (pf_b ρ (s_first ρ nd) time + pf_x cap (s_first ρ nd) (nI L) + σ 8)) := if_neg hp
      rw [e] at hq
      refine bX11_pour_66 hM ⟨fun q => absurd q hp, fun _ => ?_⟩
      suffices hh : Wn G m_X11_pour (d + 1) 77 [(0, .ref m), (3, .int time), (4, .int late), (5, .int (nI k)), (6, .int (nI L)), (7, .int (nI (s_first ρ 1))), (8, .int (nI 1))] [] X M Q by
        rw [s_first_1] at hh
        exact hh
      obtain ⟨n, rfl⟩ : ∃ n, nd = n + 1 := ⟨nd - 1, by omega⟩
      refine cl_pour_77 G d hM hs h4 h6 ?_ n 1 (by omega) (by omega)
      have hj := s_first_lt ρ n
      generalize s_first ρ (n + 1) = j at hj hq
      obtain ⟨x, x1, x2, x3⟩ := pf_x_nat (L := L) hC hj (by omega) hL2
      have rj : mI M (m + 1) (321 + 2 * j) = ρ j := by rw [hs, s_fill_at hj]
      have cj : mI M (m + 1) (320 + 2 * j) = cap j := by rw [hs, s_fill_o (by omega), hc j hj]
      have a8 : mI M (m + 1) 8 = σ 8 := by rw [hs, s_fill_o (by omega)]
      rw [x3, nI_subI _ _ x2] at hq
      have fin : ∀ bg M13, bg = pf_b ρ j time → M13 = sI M (m + 1) (321 + 2 * j) (bg + nI x + σ 8) → Wn G m_X11_pour (d + 1) 66 [(0, .ref m), (3, .int (bg + nI x)), (4, .int (late + (bg - time))), (5, .int (nI k + 1)), (6, .int (nI (L - x)))] [] X M13 Q := by
        rintro bg M13 rfl e13
        rw [nI_1]
        exact cl_pour_66 G d hM h4 h6 h1 hC hc M0 f (L - x) (k + 1) _ _ _ M13 (by omega) (by omega) (by rw [e13, mI_sI, up2_row, hs, s_fill_upd hj]) (fun c h => by rw [e13, mI_sI, up2_off _ _ _ h]; exact ho c h) (by rw [e13]; exact hR) hq
      refine bX11_pour_77 hM ⟨fun _ => ?_, fun q => absurd (by rw [hs, s_fill_o (by omega), h4]; exact Int32.le_refl _) q⟩
      rintro v2 rfl
      refine ⟨321 + 2 * j, (by first | rfl | (simp only [n_lit, nI_add, pk_mul]; done) | (simp only [n_lit, nI_add, pk_mul]; exact congrArg nI (by omega))), by omega, fun q => ?_, fun q => ?_⟩
      · rw [rj] at q
        refine ⟨320 + 2 * j, (by first | rfl | (simp only [n_lit, nI_add, pk_mul]; done) | (simp only [n_lit, nI_add, pk_mul]; exact congrArg nI (by omega))), by omega, ?_⟩
        intro v10 e10
        have f10 : v10 = nI x := by
          rw [e10, cj, ← x3]
          rfl
        subst f10
        rintro v11 rfl v12 rfl M13 e13 v14 e14
        rw [nI_subI _ _ x2] at e14
        rw [a8] at e13
        subst e14
        exact fin time M13 (if_pos q).symm e13
      · intro v15 e15
        rw [rj] at q e15
        subst e15
        refine ⟨320 + 2 * j, (by first | rfl | (simp only [n_lit, nI_add, pk_mul]; done) | (simp only [n_lit, nI_add, pk_mul]; exact congrArg nI (by omega))), by omega, ?_⟩
        intro v19 e19
        have f19 : v19 = nI x := by
          rw [e19, cj, ← x3]
          rfl
        subst f19
        rintro v20 rfl v21 rfl M22 e22 v23 e23
        rw [nI_subI _ _ x2] at e23
        rw [a8] at e22
        subst e23
        exact fin (ρ j) M22 (if_neg q).symm e22
theorem bX2_pourOut_0 {G : Gl} {d : Nat} {X : Sh} {M : Mm} {Q : Mm → Int32 → Prop} {a : Nat} {x1 : Int32} {x2 : Int32} (hS : Sh2 X a) (h : (∃ q1 : Mm → Prop, Cv G m_X1_takeOut d [.ref (a + 8), .int x1] X M q1 ∧ ∀ M3, q1 M3 → (∃ q5 : Mm → Int32 → Prop, Cn G m_X3_takeIn d [.ref (a + 82), .int x1, .int x2, .int ((mI M3 (a + 85) 2))] X M3 q5 ∧ ∀ M7 r8, q5 M7 r8 → (∃ q10 : Mm → Int32 → Prop, Cn G m_X2_lateFor d [.ref a, .int ((mI M7 (a + 82) 3))] X M7 q10 ∧ ∀ M12 r13, q10 M12 r13 → Q M12 (r8 + r13))))) : Wn G m_X2_pourOut (d + 1) 0 [(0, .ref a), (1, .int x1), (2, .int x2)] [] X M Q := by
  refine wp_aload_n 0 dX2_pourOut_0 rfl rfl ?_
  refine wp_getR dX2_pourOut_1 fl_RX2_21 rfl (sh2_K hS) (sh2_F_furnace hS) ?_
  refine wp_iload_n 1 dX2_pourOut_4 rfl rfl ?_
  obtain ⟨q1, o2, h⟩ := h
  refine wp_cvv dX2_pourOut_5 ck_RX2_128 (sh1_K (sh2_S_furnace hS)) (as := [.int x1]) rfl rfl (Nat.le_of_ble_eq_true rfl) o2 (fun M3 o4 => ?_)
  replace h := h M3 o4
  refine wp_aload_n 0 dX2_pourOut_8 rfl rfl ?_
  refine wp_getR dX2_pourOut_9 fl_RX2_35 rfl (sh2_K hS) (sh2_F_ladles hS) ?_
  refine wp_iload_n 1 dX2_pourOut_12 rfl rfl ?_
  refine wp_iload_n 2 dX2_pourOut_13 rfl rfl ?_
  refine wp_aload_n 0 dX2_pourOut_14 rfl rfl ?_
  refine wp_getR dX2_pourOut_15 fl_RX2_39 rfl (sh2_K hS) (sh2_F_rules hS) ?_
  refine wp_iconst (v := 2) dX2_pourOut_18 rfl ?_
  refine wp_iald (n := 3) dX2_pourOut_19 (sh2_K_rules hS) (sh2_N_rules hS) (by decide) rfl (by decide) ?_
  obtain ⟨q5, o6, h⟩ := h
  refine wp_cvi dX2_pourOut_20 ck_RX2_131 (sh3_K (sh2_S_ladles hS)) (as := [.int x1, .int x2, .int ((mI M3 (a + 85) 2))]) rfl rfl (Nat.le_of_ble_eq_true rfl) o6 (fun M7 r8 o9 => ?_)
  replace h := h M7 r8 o9
  refine wp_istore_n (lo2 := [(3, .int _), (0, .ref _), (1, .int _), (2, .int _)]) dX2_pourOut_23 rfl (by decide) rfl ?_
  refine wp_iload_n 0 dX2_pourOut_24 rfl rfl ?_
  refine wp_aload_n 1 dX2_pourOut_25 rfl rfl ?_
  refine wp_aload_n 1 dX2_pourOut_26 rfl rfl ?_
  refine wp_getR dX2_pourOut_27 fl_RX2_35 rfl (sh2_K hS) (sh2_F_ladles hS) ?_
  refine wp_getI dX2_pourOut_30 fl_RX2_135 rfl (sh3_K (sh2_S_ladles hS)) ?_
  obtain ⟨q10, o11, h⟩ := h
  refine wp_cvi dX2_pourOut_33 ck_RX2_138 (sh2_K hS) (as := [.int ((mI M7 (a + 82) 3))]) rfl rfl (Nat.le_of_ble_eq_true rfl) o11 (fun M12 r13 o14 => ?_)
  replace h := h M12 r13 o14
  refine wp_iadd dX2_pourOut_36 ?_
  exact wn_iret dX2_pourOut_37 rfl h
theorem bX10_pour_0 {G : Gl} {d : Nat} {X : Sh} {M : Mm} {Q : Mm → Int32 → Prop} {a : Nat} {x1 : Int32} {x2 : Int32} (hS : Sh9 X a) (h : ((¬ (1 ≤ x1 ∧ x1 ≤ 9999) → Q M (-1000000001)) ∧ (1 ≤ x1 ∧ x1 ≤ 9999 → ((0 ≤ x2 ∧ x2 ≤ 9999 → (((mI M ((a + 1) + 82) 2) = 0 → Q M (-1000000002)) ∧ (¬ ((mI M ((a + 1) + 82) 2) = 0) → ((x1 ≤ (mI M ((a + 1) + 8) 1) → (∃ q5 : Mm → Int32 → Prop, Cn G m_X2_pourOut d [.ref (a + 1), .int x1, .int x2] X M q5 ∧ ∀ M7 r8, q5 M7 r8 → Q M7 r8)) ∧ (¬ (x1 ≤ (mI M ((a + 1) + 8) 1)) → Q M (-1000000002)))))) ∧ (¬ (0 ≤ x2 ∧ x2 ≤ 9999) → Q M (-1000000001)))))) : Wn G m_X10_pour (d + 1) 0 [(0, .ref a), (1, .int x1), (2, .int x2)] [] X M Q := by
  refine wp_iload_n 1 dX10_pour_0 rfl rfl ?_
  refine wp_iconst (v := 1) dX10_pour_1 rfl ?_
  refine wp_sipush (v := 9999) dX10_pour_2 rfl ?_
  refine wp_csip dX10_pour_5 ck_RX10_63 rfl (as := [.int x1, .int 1, .int 9999]) rfl rfl (Nat.le_of_ble_eq_true rfl) (cp_X10_isWithin G d X M x1 1 9999) ?_
  refine wp_ifB_eq (inferInstance) (tgt := 22) dX10_pour_8 (by decide) (fun c1 => ?_) (fun c1 => ?_)
  · replace h := h.1 c1
    refine wp_ldc dX10_pour_22 kc_RX10_67 ?_
    exact wn_iret dX10_pour_24 rfl h
  · replace h := h.2 c1
    refine wp_iload_n 2 dX10_pour_11 rfl rfl ?_
    refine wp_iconst (v := 0) dX10_pour_12 rfl ?_
    refine wp_sipush (v := 9999) dX10_pour_13 rfl ?_
    refine wp_csip dX10_pour_16 ck_RX10_63 rfl (as := [.int x2, .int 0, .int 9999]) rfl rfl (Nat.le_of_ble_eq_true rfl) (cp_X10_isWithin G d X M x2 0 9999) ?_
    refine wp_ifB_ne (inferInstance) (tgt := 25) dX10_pour_19 (by decide) (fun c2 => ?_) (fun c2 => ?_)
    · replace h := h.1 c2
      refine wp_aload_n 0 dX10_pour_25 rfl rfl ?_
      refine wp_getR dX10_pour_26 fl_RX10_10 rfl (sh9_K hS) (sh9_F_house hS) ?_
      refine wp_getR dX10_pour_29 fl_RX10_250 rfl (sh2_K (sh9_S_house hS)) (sh2_F_ladles (sh9_S_house hS)) ?_
      refine wp_getI dX10_pour_32 fl_RX10_267 rfl (sh3_K (sh2_S_ladles (sh9_S_house hS))) ?_
      refine wp_if_eq (tgt := 52) dX10_pour_35 (by decide) (fun c3 => ?_) (fun c3 => ?_)
      · replace h := h.1 c3
        refine wp_ldc dX10_pour_52 kc_RX10_116 ?_
        exact wn_iret dX10_pour_54 rfl h
      · replace h := h.2 c3
        refine wp_aload_n 0 dX10_pour_38 rfl rfl ?_
        refine wp_getR dX10_pour_39 fl_RX10_10 rfl (sh9_K hS) (sh9_F_house hS) ?_
        refine wp_getR dX10_pour_42 fl_RX10_117 rfl (sh2_K (sh9_S_house hS)) (sh2_F_furnace (sh9_S_house hS)) ?_
        refine wp_getI dX10_pour_45 fl_RX10_181 rfl (sh1_K (sh2_S_furnace (sh9_S_house hS))) ?_
        refine wp_iload_n 1 dX10_pour_48 rfl rfl ?_
        refine wp_icmp_ge (tgt := 55) dX10_pour_49 (by decide) (fun c4 => ?_) (fun c4 => ?_)
        · replace h := h.1 c4
          refine wp_aload_n 0 dX10_pour_55 rfl rfl ?_
          refine wp_getR dX10_pour_56 fl_RX10_10 rfl (sh9_K hS) (sh9_F_house hS) ?_
          refine wp_iload_n 1 dX10_pour_59 rfl rfl ?_
          refine wp_iload_n 2 dX10_pour_60 rfl rfl ?_
          obtain ⟨q5, o6, h⟩ := h
          refine wp_cvi dX10_pour_61 ck_RX10_268 (sh2_K (sh9_S_house hS)) (as := [.int x1, .int x2]) rfl rfl (Nat.le_of_ble_eq_true rfl) o6 (fun M7 r8 o9 => ?_)
          replace h := h M7 r8 o9
          exact wn_iret dX10_pour_64 rfl h
        · replace h := h.2 c4
          refine wp_ldc dX10_pour_52 kc_RX10_116 ?_
          exact wn_iret dX10_pour_54 rfl h
    · replace h := h.2 c2
      refine wp_ldc dX10_pour_22 kc_RX10_67 ?_
      exact wn_iret dX10_pour_24 rfl h
