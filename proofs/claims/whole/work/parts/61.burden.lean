/-! the call burden -/
theorem bX0_tensIn_0 {G : Gl} {d : Nat} {X : Sh} {M : Mm} {Q : Mm → Int32 → Prop} {a : Nat} {x1 : Int32} {x2 : Int32} (hS : Sh0 X a) (h : (∀ v1 : Int32, v1 = ((mI M a 7) - 1) → Wn G m_X0_tensIn d 10 [(2, .int x2), (3, .int x1), (4, .int v1)] [] X M Q)) : Wn G m_X0_tensIn d 0 [(0, .ref a), (1, .int x1), (2, .int x2)] [] X M Q := by
  refine wp_iload_n 1 dX0_tensIn_0 rfl rfl ?_
  refine wp_istore_n (lo2 := [(3, .int _), (0, .ref _), (1, .int _), (2, .int _)]) dX0_tensIn_1 rfl (by decide) rfl ?_
  refine wp_aload_n 1 dX0_tensIn_2 rfl rfl ?_
  refine wp_getI dX0_tensIn_3 fl_RX0_34 rfl (sh0_K hS) ?_
  refine wp_iconst (v := 1) dX0_tensIn_6 rfl ?_
  refine wp_isub dX0_tensIn_7 ?_
  refine wp_topi (fun v1 ev1 => ?_)
  replace h := h v1 ev1
  refine wp_istore (lo2 := [(4, .int _), (3, .int _), (0, .ref _), (1, .int _), (2, .int _)]) dX0_tensIn_8 (by decide) rfl ?_
  exact Wp.sub [4, 1, 0] rfl h
theorem bX0_tensIn_10 {G : Gl} {d : Nat} {X : Sh} {M : Mm} {Q : Mm → Int32 → Prop} {x2 : Int32} {x3 : Int32} {x4 : Int32}  (h : ((x4 ≤ x2 → Q M (x3 - x3 / 10 * 10)) ∧ (¬ (x4 ≤ x2) → (∀ v2 : Int32, v2 = (x3 / 10) → Wn G m_X0_tensIn d 10 [(2, .int x2), (3, .int v2), (4, .int (x4 + (-1)))] [] X M Q)))) : Wn G m_X0_tensIn d 10 [(2, .int x2), (3, .int x3), (4, .int x4)] [] X M Q := by
  refine wp_iload 2 dX0_tensIn_10 rfl ?_
  refine wp_iload_n 0 dX0_tensIn_12 rfl rfl ?_
  refine wp_icmp_le (tgt := 27) dX0_tensIn_13 (by decide) (fun c1 => ?_) (fun c1 => ?_)
  · replace h := h.1 c1
    refine wp_iload_n 1 dX0_tensIn_27 rfl rfl ?_
    refine wp_bipush (v := 10) dX0_tensIn_28 rfl ?_
    refine wp_irem dX0_tensIn_30 (by decide) ?_
    exact wn_iret dX0_tensIn_31 rfl h
  · replace h := h.2 c1
    refine wp_iload_n 1 dX0_tensIn_16 rfl rfl ?_
    refine wp_bipush (v := 10) dX0_tensIn_17 rfl ?_
    refine wp_idiv dX0_tensIn_19 (by decide) ?_
    refine wp_topi (fun v2 ev2 => ?_)
    replace h := h v2 ev2
    refine wp_istore_n (lo2 := [(3, .int _), (2, .int _), (4, .int _)]) dX0_tensIn_20 rfl (by decide) rfl ?_
    refine wp_iinc (v := x4 + (-1)) (lo2 := [(4, .int _), (3, .int _), (2, .int _)]) dX0_tensIn_21 (q := 2) rfl rfl (by decide) rfl ?_
    refine wp_goto (tgt := 10) dX0_tensIn_24 (by decide) ?_
    exact Wp.sub [2, 1, 0] rfl h
theorem bX0_sumIn_0 {G : Gl} {d : Nat} {X : Sh} {M : Mm} {Q : Mm → Int32 → Prop} {a : Nat} {x1 : Int32} {x2 : Int32} (hS : Sh0 X a) (h : Wn G m_X0_sumIn (d + 1) 5 [(0, .ref a), (1, .int x1), (2, .int x2), (3, .int 0), (4, .int 0)] [] X M Q) : Wn G m_X0_sumIn (d + 1) 0 [(0, .ref a), (1, .int x1), (2, .int x2)] [] X M Q := by
  refine wp_iconst (v := 0) dX0_sumIn_0 rfl ?_
  refine wp_istore_n (lo2 := [(3, .int _), (0, .ref _), (1, .int _), (2, .int _)]) dX0_sumIn_1 rfl (by decide) rfl ?_
  refine wp_iconst (v := 0) dX0_sumIn_2 rfl ?_
  refine wp_istore (lo2 := [(4, .int _), (3, .int _), (0, .ref _), (1, .int _), (2, .int _)]) dX0_sumIn_3 (by decide) rfl ?_
  exact Wp.sub [2, 3, 4, 1, 0] rfl h
theorem bX0_sumIn_5 {G : Gl} {d : Nat} {X : Sh} {M : Mm} {Q : Mm → Int32 → Prop} {a : Nat} {x1 : Int32} {x2 : Int32} {x3 : Int32} {x4 : Int32} (hS : Sh0 X a) (hd : 2 ≤ d) (h : (((mI M a 7) ≤ x4 → Q M x3) ∧ (¬ ((mI M a 7) ≤ x4) → (∃ j2 : Nat, x4 = nI j2 ∧ j2 < 3 ∧ (∃ j5 : Nat, (mI M (a + 6) j2) = nI j5 ∧ j5 < 6 ∧ (∃ q8 : Mm → Int32 → Prop, Cn G m_X0_tensIn d [.ref a, .int x1, .int x4] X M q8 ∧ ∀ M10 r11, q8 M10 r11 → (∀ v13 : Int32, v13 = (x3 + (f_amount (mI M (a + 1) j5) (mI M (a + 2) j5) (10 * r11) x2)) → Wn G m_X0_sumIn (d + 1) 5 [(0, .ref a), (1, .int x1), (2, .int x2), (3, .int v13), (4, .int (x4 + 1))] [] X M10 Q))))))) : Wn G m_X0_sumIn (d + 1) 5 [(0, .ref a), (1, .int x1), (2, .int x2), (3, .int x3), (4, .int x4)] [] X M Q := by
  refine wp_iload 4 dX0_sumIn_5 rfl ?_
  refine wp_aload_n 0 dX0_sumIn_7 rfl rfl ?_
  refine wp_getI dX0_sumIn_8 fl_RX0_34 rfl (sh0_K hS) ?_
  refine wp_icmp_ge (tgt := 61) dX0_sumIn_11 (by decide) (fun c1 => ?_) (fun c1 => ?_)
  · replace h := h.1 c1
    refine wp_iload_n 3 dX0_sumIn_61 rfl rfl ?_
    exact wn_iret dX0_sumIn_62 rfl h
  · replace h := h.2 c1
    refine wp_iload_n 3 dX0_sumIn_14 rfl rfl ?_
    refine wp_aload_n 0 dX0_sumIn_15 rfl rfl ?_
    refine wp_getR dX0_sumIn_16 fl_RX0_9 rfl (sh0_K hS) (sh0_F_kind hS) ?_
    refine wp_aload_n 0 dX0_sumIn_19 rfl rfl ?_
    refine wp_getR dX0_sumIn_20 fl_RX0_31 rfl (sh0_K hS) (sh0_F_told hS) ?_
    refine wp_iload 4 dX0_sumIn_23 rfl ?_
    obtain ⟨j2, o3, o4, h⟩ := h
    refine wp_iald (n := 3) dX0_sumIn_25 (sh0_K_told hS) (sh0_N_told hS) (by decide) o3 o4 ?_
    obtain ⟨j5, o6, o7, h⟩ := h
    refine wp_iald (n := 6) dX0_sumIn_26 (sh0_K_kind hS) (sh0_N_kind hS) (by decide) o6 o7 ?_
    refine wp_aload_n 0 dX0_sumIn_27 rfl rfl ?_
    refine wp_getR dX0_sumIn_28 fl_RX0_15 rfl (sh0_K hS) (sh0_F_share hS) ?_
    refine wp_aload_n 0 dX0_sumIn_31 rfl rfl ?_
    refine wp_getR dX0_sumIn_32 fl_RX0_31 rfl (sh0_K hS) (sh0_F_told hS) ?_
    refine wp_iload 4 dX0_sumIn_35 rfl ?_
    refine wp_iald (n := 3) dX0_sumIn_37 (sh0_K_told hS) (sh0_N_told hS) (by decide) o3 o4 ?_
    refine wp_iald (n := 6) dX0_sumIn_38 (sh0_K_share hS) (sh0_N_share hS) (by decide) o6 o7 ?_
    refine wp_bipush (v := 10) dX0_sumIn_39 rfl ?_
    refine wp_aload_n 0 dX0_sumIn_41 rfl rfl ?_
    refine wp_iload_n 1 dX0_sumIn_42 rfl rfl ?_
    refine wp_iload 4 dX0_sumIn_43 rfl ?_
    obtain ⟨q8, o9, h⟩ := h
    refine wp_cvi dX0_sumIn_45 ck_RX0_63 (sh0_K hS) (as := [.int x1, .int x4]) rfl rfl (Nat.le_of_ble_eq_true rfl) o9 (fun M10 r11 o12 => ?_)
    replace h := h M10 r11 o12
    refine wp_imul dX0_sumIn_48 ?_
    refine wp_iload_n 2 dX0_sumIn_49 rfl rfl ?_
    refine wp_csip dX0_sumIn_50 ck_RX0_66 rfl (as := [.int ((mI M (a + 1) j5)), .int ((mI M (a + 2) j5)), .int ((10 * r11)), .int x2]) rfl rfl (Nat.le_of_ble_eq_true rfl) (cp_X7_amountOf G d (by omega) X M10 (mI M (a + 1) j5) (mI M (a + 2) j5) (10 * r11) x2) ?_
    refine wp_iadd dX0_sumIn_53 ?_
    refine wp_topi (fun v13 ev13 => ?_)
    replace h := h v13 ev13
    refine wp_istore_n (lo2 := [(3, .int _), (0, .ref _), (1, .int _), (2, .int _), (4, .int _)]) dX0_sumIn_54 rfl (by decide) rfl ?_
    refine wp_iinc (v := x4 + 1) (lo2 := [(4, .int _), (3, .int _), (0, .ref _), (1, .int _), (2, .int _)]) dX0_sumIn_55 (q := 4) rfl rfl (by decide) rfl ?_
    refine wp_goto (tgt := 5) dX0_sumIn_58 (by decide) ?_
    exact Wp.sub [2, 3, 4, 1, 0] rfl h
theorem bX0_priceIn_0 {G : Gl} {d : Nat} {X : Sh} {M : Mm} {Q : Mm → Int32 → Prop} {a : Nat} {x1 : Int32} (hS : Sh0 X a) (h : Wn G m_X0_priceIn (d + 1) 4 [(0, .ref a), (1, .int x1), (2, .int 0), (3, .int 0)] [] X M Q) : Wn G m_X0_priceIn (d + 1) 0 [(0, .ref a), (1, .int x1)] [] X M Q := by
  refine wp_iconst (v := 0) dX0_priceIn_0 rfl ?_
  refine wp_istore_n (lo2 := [(2, .int _), (0, .ref _), (1, .int _)]) dX0_priceIn_1 rfl (by decide) rfl ?_
  refine wp_iconst (v := 0) dX0_priceIn_2 rfl ?_
  refine wp_istore_n (lo2 := [(3, .int _), (2, .int _), (0, .ref _), (1, .int _)]) dX0_priceIn_3 rfl (by decide) rfl ?_
  exact Wp.sub [2, 3, 1, 0] rfl h
theorem bX0_priceIn_4 {G : Gl} {d : Nat} {X : Sh} {M : Mm} {Q : Mm → Int32 → Prop} {a : Nat} {x1 : Int32} {x2 : Int32} {x3 : Int32} (hS : Sh0 X a) (h : (((mI M a 7) ≤ x3 → Q M x2) ∧ (¬ ((mI M a 7) ≤ x3) → (∃ j2 : Nat, x3 = nI j2 ∧ j2 < 3 ∧ (∃ j5 : Nat, (mI M (a + 6) j2) = nI j5 ∧ j5 < 6 ∧ (∃ q8 : Mm → Int32 → Prop, Cn G m_X0_tensIn d [.ref a, .int x1, .int x3] X M q8 ∧ ∀ M10 r11, q8 M10 r11 → (∀ v13 : Int32, v13 = (x2 + (((mI M (a + 3) j5) * 10) * r11)) → Wn G m_X0_priceIn (d + 1) 4 [(0, .ref a), (1, .int x1), (2, .int v13), (3, .int (x3 + 1))] [] X M10 Q))))))) : Wn G m_X0_priceIn (d + 1) 4 [(0, .ref a), (1, .int x1), (2, .int x2), (3, .int x3)] [] X M Q := by
  refine wp_iload_n 3 dX0_priceIn_4 rfl rfl ?_
  refine wp_aload_n 0 dX0_priceIn_5 rfl rfl ?_
  refine wp_getI dX0_priceIn_6 fl_RX0_34 rfl (sh0_K hS) ?_
  refine wp_icmp_ge (tgt := 42) dX0_priceIn_9 (by decide) (fun c1 => ?_) (fun c1 => ?_)
  · replace h := h.1 c1
    refine wp_iload_n 2 dX0_priceIn_42 rfl rfl ?_
    exact wn_iret dX0_priceIn_43 rfl h
  · replace h := h.2 c1
    refine wp_iload_n 2 dX0_priceIn_12 rfl rfl ?_
    refine wp_aload_n 0 dX0_priceIn_13 rfl rfl ?_
    refine wp_getR dX0_priceIn_14 fl_RX0_18 rfl (sh0_K hS) (sh0_F_price hS) ?_
    refine wp_aload_n 0 dX0_priceIn_17 rfl rfl ?_
    refine wp_getR dX0_priceIn_18 fl_RX0_31 rfl (sh0_K hS) (sh0_F_told hS) ?_
    refine wp_iload_n 3 dX0_priceIn_21 rfl rfl ?_
    obtain ⟨j2, o3, o4, h⟩ := h
    refine wp_iald (n := 3) dX0_priceIn_22 (sh0_K_told hS) (sh0_N_told hS) (by decide) o3 o4 ?_
    obtain ⟨j5, o6, o7, h⟩ := h
    refine wp_iald (n := 6) dX0_priceIn_23 (sh0_K_price hS) (sh0_N_price hS) (by decide) o6 o7 ?_
    refine wp_bipush (v := 10) dX0_priceIn_24 rfl ?_
    refine wp_imul dX0_priceIn_26 ?_
    refine wp_aload_n 0 dX0_priceIn_27 rfl rfl ?_
    refine wp_iload_n 1 dX0_priceIn_28 rfl rfl ?_
    refine wp_iload_n 3 dX0_priceIn_29 rfl rfl ?_
    obtain ⟨q8, o9, h⟩ := h
    refine wp_cvi dX0_priceIn_30 ck_RX0_63 (sh0_K hS) (as := [.int x1, .int x3]) rfl rfl (Nat.le_of_ble_eq_true rfl) o9 (fun M10 r11 o12 => ?_)
    replace h := h M10 r11 o12
    refine wp_imul dX0_priceIn_33 ?_
    refine wp_iadd dX0_priceIn_34 ?_
    refine wp_topi (fun v13 ev13 => ?_)
    replace h := h v13 ev13
    refine wp_istore_n (lo2 := [(2, .int _), (0, .ref _), (1, .int _), (3, .int _)]) dX0_priceIn_35 rfl (by decide) rfl ?_
    refine wp_iinc (v := x3 + 1) (lo2 := [(3, .int _), (2, .int _), (0, .ref _), (1, .int _)]) dX0_priceIn_36 (q := 3) rfl rfl (by decide) rfl ?_
    refine wp_goto (tgt := 4) dX0_priceIn_39 (by decide) ?_
    exact Wp.sub [2, 3, 1, 0] rfl h
/-- the tens of the told bin k in a mix -/
def dgt (nt mix k : Nat) : Nat := dN mix (nt - 1 - k) % 10
/-- the told bins, in the class's bins at a and in the flat row -/
def Tld (M : Mm) (a : Nat) (σ : Nat → Int32) (nt : Nat) (tb : Nat → Nat) : Prop := mI M a 7 = nI nt ∧ nt ≤ 3 ∧ ∀ k, k < nt → tb k < 6 ∧ mI M (a + 6) k = nI (tb k) ∧ mI M (a + 1) (tb k) = σ (20 + 5 * tb k) ∧ mI M (a + 2) (tb k) = σ (21 + 5 * tb k) ∧ mI M (a + 3) (tb k) = σ (22 + 5 * tb k) ∧ ∃ kd sh, kd ≤ 5 ∧ sh ≤ 99 ∧ σ (20 + 5 * tb k) = nI kd ∧ σ (21 + 5 * tb k) = nI sh
theorem cl_tensIn (G : Gl) (d : Nat) {X : Sh} {M : Mm} {mix i N : Nat} {Q : Mm → Int32 → Prop} (hm : mix < 2147483648) (hi : i + N < 2147483648) (hq : Q M (nI (dN mix N % 10))) :
    ∀ (n j : Nat), j + n = N → Wn G m_X0_tensIn d 10 [(2, .int (nI i)), (3, .int (nI (dN mix j))), (4, .int (nI (i + n)))] [] X M Q
  | 0, j, h => by
    have hj : j = N := h
    subst hj
    have := dN_le mix j
    refine bX0_tensIn_10 ⟨fun _ => ?_, fun q => absurd (Int32.le_refl _) q⟩
    rw [n_lit 10, pk_rem (by omega) (by omega) (by omega)]
    exact hq
  | n + 1, j, h => by
    have := dN_le mix j
    refine bX0_tensIn_10 ⟨fun q => ?_, fun _ => ?_⟩
    · have := (nI_leI (by omega) (by omega)).mp q
      omega
    intro v2 e2
    rw [n_lit 10, nI_div (by omega) (by omega) (by omega)] at e2
    subst e2
    rw [show i + (n + 1) = i + n + 1 by omega, pk_m1]
    exact cl_tensIn G d hm hi hq n (j + 1) (by omega)
theorem cp_X0_tensIn (G : Gl) (d : Nat) (X : Sh) (M : Mm) (a nt mix i : Nat) (hS : Sh0 X a) (h7 : mI M a 7 = nI nt) (hnt : nt ≤ 3) (hi : i < nt) (hm : mix < 2147483648) : Cn G m_X0_tensIn d [.ref a, .int (nI mix), .int (nI i)] X M (fun M2 r => M2 = M ∧ r = nI (dgt nt mix i)) := by
  refine Cn.of (by decide) (Nat.le_of_ble_eq_true rfl) (bX0_tensIn_0 hS ?_)
  intro v1 e1
  rw [h7, show nt = nt - 1 + 1 by omega, nI_pred] at e1
  subst e1
  have e : nt - 1 = i + (nt - 1 - i) := by omega
  rw [show nI (nt - 1) = nI (i + (nt - 1 - i)) from congrArg nI e]
  exact cl_tensIn G d (N := nt - 1 - i) hm (by omega) ⟨rfl, rfl⟩ (nt - 1 - i) 0 (by omega)
def tP (σ : Nat → Int32) (tb : Nat → Nat) (nt mix k : Nat) : Int32 := (σ (22 + 5 * tb k) * 10) * nI (dgt nt mix k)
def tA (σ : Nat → Int32) (tb : Nat → Nat) (w : Int32) (nt mix k : Nat) : Int32 := f_amount (σ (20 + 5 * tb k)) (σ (21 + 5 * tb k)) (10 * nI (dgt nt mix k)) w
theorem cl_priceIn (G : Gl) (d : Nat) {X : Sh} {M : Mm} {a nt mix : Nat} {σ : Nat → Int32} {tb : Nat → Nat} {Q : Mm → Int32 → Prop} (hS : Sh0 X a) (hT : Tld M a σ nt tb) (hm : mix < 2147483648) (hq : Q M (s_sum (tP σ tb nt mix) 0 nt)) :
    ∀ (n i : Nat), i + n = nt → Wn G m_X0_priceIn (d + 1) 4 [(0, .ref a), (1, .int (nI mix)), (2, .int (s_sum (tP σ tb nt mix) 0 i)), (3, .int (nI i))] [] X M Q
  | 0, i, h => by
    have hi : i = nt := h
    subst hi
    exact bX0_priceIn_4 hS ⟨fun _ => hq, fun q => absurd (by rw [hT.1]; exact Int32.le_refl _) q⟩
  | n + 1, i, h => by
    obtain ⟨t1, t2, t3⟩ := id hT
    obtain ⟨b1, b2, b3, b4, b5, _⟩ := t3 i (by omega)
    refine bX0_priceIn_4 hS ⟨fun q => ?_, fun _ => ⟨i, rfl, by omega, tb i, b2, b1, _, cp_X0_tensIn G d X M a nt mix i hS t1 t2 (by omega) hm, ?_⟩⟩
    · rw [t1] at q
      have := (nI_leI (by omega) (by omega)).mp q
      omega
    rintro M10 r11 ⟨e, rfl⟩
    have e := e.symm
    subst e
    intro v13 e13
    rw [b5] at e13
    rw [nI_1, e13]
    exact cl_priceIn G d hS hT hm hq n (i + 1) (by omega)
theorem cp_X0_priceIn (G : Gl) (d : Nat) (hd : 1 ≤ d) (X : Sh) (M : Mm) (a nt mix : Nat) (σ : Nat → Int32) (tb : Nat → Nat) (hS : Sh0 X a) (hT : Tld M a σ nt tb) (hm : mix < 2147483648) : Cn G m_X0_priceIn d [.ref a, .int (nI mix)] X M (fun M2 r => M2 = M ∧ r = s_sum (tP σ tb nt mix) 0 nt) := by
  obtain ⟨d, rfl⟩ : ∃ d1, d = d1 + 1 := ⟨d - 1, by omega⟩
  exact Cn.of (by decide) (Nat.le_of_ble_eq_true rfl) (bX0_priceIn_0 hS (cl_priceIn G d hS hT hm ⟨rfl, rfl⟩ nt 0 (by omega)))
theorem cl_sumIn (G : Gl) (d : Nat) (hd : 2 ≤ d) {X : Sh} {M : Mm} {a nt mix : Nat} {w : Int32} {σ : Nat → Int32} {tb : Nat → Nat} {Q : Mm → Int32 → Prop} (hS : Sh0 X a) (hT : Tld M a σ nt tb) (hm : mix < 2147483648) (hq : Q M (s_sum (tA σ tb w nt mix) 0 nt)) :
    ∀ (n i : Nat), i + n = nt → Wn G m_X0_sumIn (d + 1) 5 [(0, .ref a), (1, .int (nI mix)), (2, .int w), (3, .int (s_sum (tA σ tb w nt mix) 0 i)), (4, .int (nI i))] [] X M Q
  | 0, i, h => by
    have hi : i = nt := h
    subst hi
    exact bX0_sumIn_5 hS hd ⟨fun _ => hq, fun q => absurd (by rw [hT.1]; exact Int32.le_refl _) q⟩
  | n + 1, i, h => by
    obtain ⟨t1, t2, t3⟩ := id hT
    obtain ⟨b1, b2, b3, b4, b5, _⟩ := t3 i (by omega)
    refine bX0_sumIn_5 hS hd ⟨fun q => ?_, fun _ => ⟨i, rfl, by omega, tb i, b2, b1, _, cp_X0_tensIn G d X M a nt mix i hS t1 t2 (by omega) hm, ?_⟩⟩
    · rw [t1] at q
      have := (nI_leI (by omega) (by omega)).mp q
      omega
    rintro M10 r11 ⟨e, rfl⟩
    have e := e.symm
    subst e
    intro v13 e13
    rw [b3, b4] at e13
    rw [nI_1, e13]
    exact cl_sumIn G d hd hS hT hm hq n (i + 1) (by omega)
theorem cp_X0_sumIn (G : Gl) (d : Nat) (hd : 3 ≤ d) (X : Sh) (M : Mm) (a nt mix : Nat) (w : Int32) (σ : Nat → Int32) (tb : Nat → Nat) (hS : Sh0 X a) (hT : Tld M a σ nt tb) (hm : mix < 2147483648) : Cn G m_X0_sumIn d [.ref a, .int (nI mix), .int w] X M (fun M2 r => M2 = M ∧ r = s_sum (tA σ tb w nt mix) 0 nt) := by
  obtain ⟨d, rfl⟩ : ∃ d1, d = d1 + 1 := ⟨d - 1, by omega⟩
  exact Cn.of (by decide) (Nat.le_of_ble_eq_true rfl) (bX0_sumIn_0 hS (cl_sumIn G d (by omega) hS hT hm ⟨rfl, rfl⟩ nt 0 (by omega)))
/-- whether a mix suits -/
def Suits (σ : Nat → Int32) (tb : Nat → Nat) (nt : Nat) (need lo hi : Int32) (mix : Nat) : Prop := need ≤ s_sum (tA σ tb 1 nt mix) 0 nt ∧ lo ≤ f_basic (s_sum (tA σ tb 3 nt mix) 0 nt) (s_sum (tA σ tb 2 nt mix) 0 nt) ∧ f_basic (s_sum (tA σ tb 3 nt mix) 0 nt) (s_sum (tA σ tb 2 nt mix) 0 nt) ≤ hi
/-- the best of the first n mixes, and its price -/
noncomputable def bst (σ : Nat → Int32) (tb : Nat → Nat) (nt : Nat) (need lo hi : Int32) : Nat → Int32 × Int32
  | 0 => (-1, 0)
  | n + 1 => haveI := Classical.propDecidable (Suits σ tb nt need lo hi n); if ((bst σ tb nt need lo hi n).1 < 0 ∨ s_sum (tP σ tb nt n) 0 nt < (bst σ tb nt need lo hi n).2) ∧ Suits σ tb nt need lo hi n then (nI n, s_sum (tP σ tb nt n) 0 nt) else bst σ tb nt need lo hi n
theorem bst_yes {σ : Nat → Int32} {tb : Nat → Nat} {nt n : Nat} {need lo hi : Int32} (h : (bst σ tb nt need lo hi n).1 < 0 ∨ s_sum (tP σ tb nt n) 0 nt < (bst σ tb nt need lo hi n).2) (h2 : Suits σ tb nt need lo hi n) : bst σ tb nt need lo hi (n + 1) = (nI n, s_sum (tP σ tb nt n) 0 nt) := if_pos ⟨h, h2⟩
theorem bst_no {σ : Nat → Int32} {tb : Nat → Nat} {nt n : Nat} {need lo hi : Int32} (h : ¬ (((bst σ tb nt need lo hi n).1 < 0 ∨ s_sum (tP σ tb nt n) 0 nt < (bst σ tb nt need lo hi n).2) ∧ Suits σ tb nt need lo hi n)) : bst σ tb nt need lo hi (n + 1) = bst σ tb nt need lo hi n := if_neg h
theorem bst_is (σ : Nat → Int32) (tb : Nat → Nat) (nt : Nat) (need lo hi : Int32) : ∀ n, (bst σ tb nt need lo hi n).1 = -1 ∨ ∃ k, k < n ∧ bst σ tb nt need lo hi n = (nI k, s_sum (tP σ tb nt k) 0 nt)
  | 0 => Or.inl rfl
  | n + 1 => by
    by_cases h : ((bst σ tb nt need lo hi n).1 < 0 ∨ s_sum (tP σ tb nt n) 0 nt < (bst σ tb nt need lo hi n).2) ∧ Suits σ tb nt need lo hi n
    · exact Or.inr ⟨n, by omega, bst_yes h.1 h.2⟩
    · rw [bst_no h]
      rcases bst_is σ tb nt need lo hi n with q | ⟨k, hk, q⟩
      · exact Or.inl q
      · exact Or.inr ⟨k, by omega, q⟩
theorem bX0_suits_0 {G : Gl} {d : Nat} {X : Sh} {M : Mm} {Q : Mm → Int32 → Prop} {a : Nat} {x1 : Int32} {x2 : Int32} {x3 : Int32} {x4 : Int32} (hS : Sh0 X a) (h : (∃ q1 : Mm → Int32 → Prop, Cn G m_X0_sumIn d [.ref a, .int x1, .int 1] X M q1 ∧ ∀ M3 r4, q1 M3 r4 → ((x2 ≤ r4 → (∃ q7 : Mm → Int32 → Prop, Cn G m_X0_sumIn d [.ref a, .int x1, .int 3] X M3 q7 ∧ ∀ M9 r10, q7 M9 r10 → (∃ q12 : Mm → Int32 → Prop, Cn G m_X0_sumIn d [.ref a, .int x1, .int 2] X M9 q12 ∧ ∀ M14 r15, q12 M14 r15 → Q M14 (if x3 ≤ (f_basic r10 r15) ∧ (f_basic r10 r15) ≤ x4 then 1 else 0)))) ∧ (¬ (x2 ≤ r4) → Q M3 0)))) : Wn G m_X0_suits (d + 1) 0 [(0, .ref a), (1, .int x1), (2, .int x2), (3, .int x3), (4, .int x4)] [] X M Q := by
  refine wp_aload_n 0 dX0_suits_0 rfl rfl ?_
  refine wp_iload_n 1 dX0_suits_1 rfl rfl ?_
  refine wp_iconst (v := 1) dX0_suits_2 rfl ?_
  obtain ⟨q1, o2, h⟩ := h
  refine wp_cvi dX0_suits_3 ck_RX0_52 (sh0_K hS) (as := [.int x1, .int 1]) rfl rfl (Nat.le_of_ble_eq_true rfl) o2 (fun M3 r4 o5 => ?_)
  replace h := h M3 r4 o5
  refine wp_iload_n 2 dX0_suits_6 rfl rfl ?_
  refine wp_icmp_ge (tgt := 12) dX0_suits_7 (by decide) (fun c6 => ?_) (fun c6 => ?_)
  · replace h := h.1 c6
    refine wp_aload_n 0 dX0_suits_12 rfl rfl ?_
    refine wp_iload_n 1 dX0_suits_13 rfl rfl ?_
    refine wp_iconst (v := 3) dX0_suits_14 rfl ?_
    obtain ⟨q7, o8, h⟩ := h
    refine wp_cvi dX0_suits_15 ck_RX0_52 (sh0_K hS) (as := [.int x1, .int 3]) rfl rfl (Nat.le_of_ble_eq_true rfl) o8 (fun M9 r10 o11 => ?_)
    replace h := h M9 r10 o11
    refine wp_aload_n 0 dX0_suits_18 rfl rfl ?_
    refine wp_iload_n 1 dX0_suits_19 rfl rfl ?_
    refine wp_iconst (v := 2) dX0_suits_20 rfl ?_
    obtain ⟨q12, o13, h⟩ := h
    refine wp_cvi dX0_suits_21 ck_RX0_52 (sh0_K hS) (as := [.int x1, .int 2]) rfl rfl (Nat.le_of_ble_eq_true rfl) o13 (fun M14 r15 o16 => ?_)
    replace h := h M14 r15 o16
    refine wp_cnip dX0_suits_24 ck_RX0_56 (as := [.int r10, .int r15]) rfl rfl (Nat.le_of_ble_eq_true rfl) (cp_X10_basicOf G d X M14 r10 r15) ?_
    refine wp_iload_n 3 dX0_suits_27 rfl rfl ?_
    refine wp_iload 4 dX0_suits_28 rfl ?_
    refine wp_cnip dX0_suits_30 ck_RX0_59 (as := [.int ((f_basic r10 r15)), .int x3, .int x4]) rfl rfl (Nat.le_of_ble_eq_true rfl) (cp_X10_isWithin G d X M14 (f_basic r10 r15) x3 x4) ?_
    exact wn_zret dX0_suits_33 rfl (ite_01 _) h
  · replace h := h.2 c6
    refine wp_iconst (v := 0) dX0_suits_10 rfl ?_
    exact wn_zret dX0_suits_11 rfl (Or.inl rfl) h
theorem bX0_cheapestMix_0 {G : Gl} {d : Nat} {X : Sh} {M : Mm} {Q : Mm → Int32 → Prop} {a : Nat} {x1 : Int32} {x2 : Int32} {x3 : Int32} (hS : Sh0 X a) (h : Wn G m_X0_cheapestMix (d + 1) 6 [(0, .ref a), (1, .int x1), (2, .int x2), (3, .int x3), (4, .int 1), (5, .int 0)] [] X M Q) : Wn G m_X0_cheapestMix (d + 1) 0 [(0, .ref a), (1, .int x1), (2, .int x2), (3, .int x3)] [] X M Q := by
  refine wp_iconst (v := 1) dX0_cheapestMix_0 rfl ?_
  refine wp_istore (lo2 := [(4, .int _), (0, .ref _), (1, .int _), (2, .int _), (3, .int _)]) dX0_cheapestMix_1 (by decide) rfl ?_
  refine wp_iconst (v := 0) dX0_cheapestMix_3 rfl ?_
  refine wp_istore (lo2 := [(5, .int _), (4, .int _), (0, .ref _), (1, .int _), (2, .int _), (3, .int _)]) dX0_cheapestMix_4 (by decide) rfl ?_
  exact Wp.sub [2, 3, 4, 5, 1, 0] rfl h
theorem bX0_cheapestMix_6 {G : Gl} {d : Nat} {X : Sh} {M : Mm} {Q : Mm → Int32 → Prop} {a : Nat} {x1 : Int32} {x2 : Int32} {x3 : Int32} {x4 : Int32} {x5 : Int32} (hS : Sh0 X a) (h : (((mI M a 7) ≤ x5 → Wn G m_X0_cheapestMix (d + 1) 37 [(0, .ref a), (1, .int x1), (2, .int x2), (3, .int x3), (4, .int x4), (5, .int (-1)), (6, .int 0), (7, .int 0)] [] X M Q) ∧ (¬ ((mI M a 7) ≤ x5) → (∀ v2 : Int32, v2 = (x4 * 10) → Wn G m_X0_cheapestMix (d + 1) 6 [(0, .ref a), (1, .int x1), (2, .int x2), (3, .int x3), (4, .int v2), (5, .int (x5 + 1))] [] X M Q)))) : Wn G m_X0_cheapestMix (d + 1) 6 [(0, .ref a), (1, .int x1), (2, .int x2), (3, .int x3), (4, .int x4), (5, .int x5)] [] X M Q := by
  refine wp_iload 5 dX0_cheapestMix_6 rfl ?_
  refine wp_aload_n 0 dX0_cheapestMix_8 rfl rfl ?_
  refine wp_getI dX0_cheapestMix_9 fl_RX0_34 rfl (sh0_K hS) ?_
  refine wp_icmp_ge (tgt := 28) dX0_cheapestMix_12 (by decide) (fun c1 => ?_) (fun c1 => ?_)
  · replace h := h.1 c1
    refine wp_iconst (v := (-1)) dX0_cheapestMix_28 rfl ?_
    refine wp_istore (lo2 := [(5, .int _), (0, .ref _), (1, .int _), (2, .int _), (3, .int _), (4, .int _)]) dX0_cheapestMix_29 (by decide) rfl ?_
    refine wp_iconst (v := 0) dX0_cheapestMix_31 rfl ?_
    refine wp_istore (lo2 := [(6, .int _), (5, .int _), (0, .ref _), (1, .int _), (2, .int _), (3, .int _), (4, .int _)]) dX0_cheapestMix_32 (by decide) rfl ?_
    refine wp_iconst (v := 0) dX0_cheapestMix_34 rfl ?_
    refine wp_istore (lo2 := [(7, .int _), (6, .int _), (5, .int _), (0, .ref _), (1, .int _), (2, .int _), (3, .int _), (4, .int _)]) dX0_cheapestMix_35 (by decide) rfl ?_
    exact Wp.sub [3, 4, 5, 6, 7, 2, 1, 0] rfl h
  · replace h := h.2 c1
    refine wp_iload 4 dX0_cheapestMix_15 rfl ?_
    refine wp_bipush (v := 10) dX0_cheapestMix_17 rfl ?_
    refine wp_imul dX0_cheapestMix_19 ?_
    refine wp_topi (fun v2 ev2 => ?_)
    replace h := h v2 ev2
    refine wp_istore (lo2 := [(4, .int _), (0, .ref _), (1, .int _), (2, .int _), (3, .int _), (5, .int _)]) dX0_cheapestMix_20 (by decide) rfl ?_
    refine wp_iinc (v := x5 + 1) (lo2 := [(5, .int _), (4, .int _), (0, .ref _), (1, .int _), (2, .int _), (3, .int _)]) dX0_cheapestMix_22 (q := 5) rfl rfl (by decide) rfl ?_
    refine wp_goto (tgt := 6) dX0_cheapestMix_25 (by decide) ?_
    exact Wp.sub [2, 3, 4, 5, 1, 0] rfl h
theorem bX0_cheapestMix_37 {G : Gl} {d : Nat} {X : Sh} {M : Mm} {Q : Mm → Int32 → Prop} {a : Nat} {x1 : Int32} {x2 : Int32} {x3 : Int32} {x4 : Int32} {x5 : Int32} {x6 : Int32} {x7 : Int32} (hS : Sh0 X a) (h : ((x4 ≤ x7 → Q M x5) ∧ (¬ (x4 ≤ x7) → (∃ q2 : Mm → Int32 → Prop, Cn G m_X0_priceIn d [.ref a, .int x7] X M q2 ∧ ∀ M4 r5, q2 M4 r5 → ((x5 < 0 → (∃ q8 : Mm → Int32 → Prop, Cn G m_X0_suits d [.ref a, .int x7, .int x1, .int x2, .int x3] X M4 q8 ∧ ∀ M10 r11, q8 M10 r11 → ((r11 = 0 → Wn G m_X0_cheapestMix (d + 1) 37 [(0, .ref a), (1, .int x1), (2, .int x2), (3, .int x3), (4, .int x4), (5, .int x5), (6, .int x6), (7, .int (x7 + 1))] [] X M10 Q) ∧ (¬ (r11 = 0) → Wn G m_X0_cheapestMix (d + 1) 37 [(0, .ref a), (1, .int x1), (2, .int x2), (3, .int x3), (4, .int x4), (5, .int x7), (6, .int r5), (7, .int (x7 + 1))] [] X M10 Q)))) ∧ (¬ (x5 < 0) → ((x6 ≤ r5 → Wn G m_X0_cheapestMix (d + 1) 37 [(0, .ref a), (1, .int x1), (2, .int x2), (3, .int x3), (4, .int x4), (5, .int x5), (6, .int x6), (7, .int (x7 + 1))] [] X M4 Q) ∧ (¬ (x6 ≤ r5) → (∃ q15 : Mm → Int32 → Prop, Cn G m_X0_suits d [.ref a, .int x7, .int x1, .int x2, .int x3] X M4 q15 ∧ ∀ M17 r18, q15 M17 r18 → ((r18 = 0 → Wn G m_X0_cheapestMix (d + 1) 37 [(0, .ref a), (1, .int x1), (2, .int x2), (3, .int x3), (4, .int x4), (5, .int x5), (6, .int x6), (7, .int (x7 + 1))] [] X M17 Q) ∧ (¬ (r18 = 0) → Wn G m_X0_cheapestMix (d + 1) 37 [(0, .ref a), (1, .int x1), (2, .int x2), (3, .int x3), (4, .int x4), (5, .int x7), (6, .int r5), (7, .int (x7 + 1))] [] X M17 Q))))))))))) : Wn G m_X0_cheapestMix (d + 1) 37 [(0, .ref a), (1, .int x1), (2, .int x2), (3, .int x3), (4, .int x4), (5, .int x5), (6, .int x6), (7, .int x7)] [] X M Q := by
  refine wp_iload 7 dX0_cheapestMix_37 rfl ?_
  refine wp_iload 4 dX0_cheapestMix_39 rfl ?_
  refine wp_icmp_ge (tgt := 90) dX0_cheapestMix_41 (by decide) (fun c1 => ?_) (fun c1 => ?_)
  · replace h := h.1 c1
    refine wp_iload 5 dX0_cheapestMix_90 rfl ?_
    exact wn_iret dX0_cheapestMix_92 rfl h
  · replace h := h.2 c1
    refine wp_aload_n 0 dX0_cheapestMix_44 rfl rfl ?_
    refine wp_iload 7 dX0_cheapestMix_45 rfl ?_
    obtain ⟨q2, o3, h⟩ := h
    refine wp_cvi dX0_cheapestMix_47 ck_RX0_44 (sh0_K hS) (as := [.int x7]) rfl rfl (Nat.le_of_ble_eq_true rfl) o3 (fun M4 r5 o6 => ?_)
    replace h := h M4 r5 o6
    refine wp_istore (lo2 := [(8, .int _), (0, .ref _), (1, .int _), (2, .int _), (3, .int _), (4, .int _), (5, .int _), (6, .int _), (7, .int _)]) dX0_cheapestMix_50 (by decide) rfl ?_
    refine wp_iload 6 dX0_cheapestMix_52 rfl ?_
    refine wp_if_lt (tgt := 64) dX0_cheapestMix_54 (by decide) (fun c7 => ?_) (fun c7 => ?_)
    · replace h := h.1 c7
      refine wp_aload_n 1 dX0_cheapestMix_64 rfl rfl ?_
      refine wp_iload 8 dX0_cheapestMix_65 rfl ?_
      refine wp_iload_n 2 dX0_cheapestMix_67 rfl rfl ?_
      refine wp_iload_n 3 dX0_cheapestMix_68 rfl rfl ?_
      refine wp_iload_n 4 dX0_cheapestMix_69 rfl rfl ?_
      obtain ⟨q8, o9, h⟩ := h
      refine wp_cvi dX0_cheapestMix_70 ck_RX0_48 (sh0_K hS) (as := [.int x7, .int x1, .int x2, .int x3]) rfl rfl (Nat.le_of_ble_eq_true rfl) o9 (fun M10 r11 o12 => ?_)
      replace h := h M10 r11 o12
      refine wp_if_eq (tgt := 84) dX0_cheapestMix_73 (by decide) (fun c13 => ?_) (fun c13 => ?_)
      · replace h := h.1 c13
        refine wp_iinc (v := x7 + 1) (lo2 := [(7, .int _), (8, .int _), (0, .ref _), (1, .int _), (2, .int _), (3, .int _), (4, .int _), (5, .int _), (6, .int _)]) dX0_cheapestMix_84 (q := 8) rfl rfl (by decide) rfl ?_
        refine wp_goto (tgt := 37) dX0_cheapestMix_87 (by decide) ?_
        exact Wp.sub [2, 3, 4, 5, 6, 7, 8, 0] rfl h
      · replace h := h.2 c13
        refine wp_iload 8 dX0_cheapestMix_76 rfl ?_
        refine wp_istore (lo2 := [(5, .int _), (8, .int _), (0, .ref _), (1, .int _), (2, .int _), (3, .int _), (4, .int _), (6, .int _), (7, .int _)]) dX0_cheapestMix_78 (by decide) rfl ?_
        refine wp_iload 1 dX0_cheapestMix_80 rfl ?_
        refine wp_istore (lo2 := [(6, .int _), (5, .int _), (8, .int _), (0, .ref _), (1, .int _), (2, .int _), (3, .int _), (4, .int _), (7, .int _)]) dX0_cheapestMix_82 (by decide) rfl ?_
        refine wp_iinc (v := x7 + 1) (lo2 := [(7, .int _), (6, .int _), (5, .int _), (8, .int _), (0, .ref _), (1, .int _), (2, .int _), (3, .int _), (4, .int _)]) dX0_cheapestMix_84 (q := 8) rfl rfl (by decide) rfl ?_
        refine wp_goto (tgt := 37) dX0_cheapestMix_87 (by decide) ?_
        exact Wp.sub [4, 5, 6, 7, 8, 2, 1, 0] rfl h
    · replace h := h.2 c7
      refine wp_iload 0 dX0_cheapestMix_57 rfl ?_
      refine wp_iload 7 dX0_cheapestMix_59 rfl ?_
      refine wp_icmp_ge (tgt := 84) dX0_cheapestMix_61 (by decide) (fun c14 => ?_) (fun c14 => ?_)
      · replace h := h.1 c14
        refine wp_iinc (v := x7 + 1) (lo2 := [(7, .int _), (8, .int _), (0, .ref _), (1, .int _), (2, .int _), (3, .int _), (4, .int _), (5, .int _), (6, .int _)]) dX0_cheapestMix_84 (q := 8) rfl rfl (by decide) rfl ?_
        refine wp_goto (tgt := 37) dX0_cheapestMix_87 (by decide) ?_
        exact Wp.sub [2, 3, 4, 5, 6, 7, 8, 0] rfl h
      · replace h := h.2 c14
        refine wp_aload_n 1 dX0_cheapestMix_64 rfl rfl ?_
        refine wp_iload 8 dX0_cheapestMix_65 rfl ?_
        refine wp_iload_n 2 dX0_cheapestMix_67 rfl rfl ?_
        refine wp_iload_n 3 dX0_cheapestMix_68 rfl rfl ?_
        refine wp_iload_n 4 dX0_cheapestMix_69 rfl rfl ?_
        obtain ⟨q15, o16, h⟩ := h
        refine wp_cvi dX0_cheapestMix_70 ck_RX0_48 (sh0_K hS) (as := [.int x7, .int x1, .int x2, .int x3]) rfl rfl (Nat.le_of_ble_eq_true rfl) o16 (fun M17 r18 o19 => ?_)
        replace h := h M17 r18 o19
        refine wp_if_eq (tgt := 84) dX0_cheapestMix_73 (by decide) (fun c20 => ?_) (fun c20 => ?_)
        · replace h := h.1 c20
          refine wp_iinc (v := x7 + 1) (lo2 := [(7, .int _), (8, .int _), (0, .ref _), (1, .int _), (2, .int _), (3, .int _), (4, .int _), (5, .int _), (6, .int _)]) dX0_cheapestMix_84 (q := 8) rfl rfl (by decide) rfl ?_
          refine wp_goto (tgt := 37) dX0_cheapestMix_87 (by decide) ?_
          exact Wp.sub [2, 3, 4, 5, 6, 7, 8, 0] rfl h
        · replace h := h.2 c20
          refine wp_iload 8 dX0_cheapestMix_76 rfl ?_
          refine wp_istore (lo2 := [(5, .int _), (8, .int _), (0, .ref _), (1, .int _), (2, .int _), (3, .int _), (4, .int _), (6, .int _), (7, .int _)]) dX0_cheapestMix_78 (by decide) rfl ?_
          refine wp_iload 1 dX0_cheapestMix_80 rfl ?_
          refine wp_istore (lo2 := [(6, .int _), (5, .int _), (8, .int _), (0, .ref _), (1, .int _), (2, .int _), (3, .int _), (4, .int _), (7, .int _)]) dX0_cheapestMix_82 (by decide) rfl ?_
          refine wp_iinc (v := x7 + 1) (lo2 := [(7, .int _), (6, .int _), (5, .int _), (8, .int _), (0, .ref _), (1, .int _), (2, .int _), (3, .int _), (4, .int _)]) dX0_cheapestMix_84 (q := 8) rfl rfl (by decide) rfl ?_
          refine wp_goto (tgt := 37) dX0_cheapestMix_87 (by decide) ?_
          exact Wp.sub [4, 5, 6, 7, 8, 2, 1, 0] rfl h
theorem cp_X0_suits (G : Gl) (d : Nat) (hd : 4 ≤ d) (X : Sh) (M : Mm) (a nt mix : Nat) (need lo hi : Int32) (σ : Nat → Int32) (tb : Nat → Nat) (hS : Sh0 X a) (hT : Tld M a σ nt tb) (hm : mix < 2147483648) : Cn G m_X0_suits d [.ref a, .int (nI mix), .int need, .int lo, .int hi] X M (fun M2 r => M2 = M ∧ (r = 0 ↔ ¬ Suits σ tb nt need lo hi mix)) := by
  obtain ⟨d, rfl⟩ : ∃ d1, d = d1 + 1 := ⟨d - 1, by omega⟩
  refine Cn.of (by decide) (Nat.le_of_ble_eq_true rfl) (bX0_suits_0 hS ⟨_, cp_X0_sumIn G d (by omega) X M a nt mix 1 σ tb hS hT hm, ?_⟩)
  rintro M3 r4 ⟨e, rfl⟩
  have e := e.symm
  subst e
  refine ⟨fun h1 => ⟨_, cp_X0_sumIn G d (by omega) X M a nt mix 3 σ tb hS hT hm, ?_⟩, fun h1 => ⟨rfl, fun _ q => h1 q.1, fun _ => rfl⟩⟩
  rintro M9 r10 ⟨e, rfl⟩
  have e := e.symm
  subst e
  refine ⟨_, cp_X0_sumIn G d (by omega) X M a nt mix 2 σ tb hS hT hm, ?_⟩
  rintro M14 r15 ⟨e, rfl⟩
  have e := e.symm
  subst e
  refine ⟨rfl, ?_⟩
  by_cases h2 : lo ≤ f_basic (s_sum (tA σ tb 3 nt mix) 0 nt) (s_sum (tA σ tb 2 nt mix) 0 nt) ∧ f_basic (s_sum (tA σ tb 3 nt mix) 0 nt) (s_sum (tA σ tb 2 nt mix) 0 nt) ≤ hi
  · rw [if_pos h2]
    exact ⟨fun q => absurd q (by decide), fun q => absurd ⟨h1, h2⟩ q⟩
  · rw [if_neg h2]
    exact ⟨fun _ q => h2 q.2, fun _ => rfl⟩
theorem cl_mix_37 (G : Gl) (d : Nat) (hd : 4 ≤ d) {X : Sh} {M : Mm} {a nt N : Nat} {need lo hi : Int32} {σ : Nat → Int32} {tb : Nat → Nat} {Q : Mm → Int32 → Prop} (hS : Sh0 X a) (hT : Tld M a σ nt tb) (hN : N ≤ 1000) (hq : Q M (bst σ tb nt need lo hi N).1) :
    ∀ (n i : Nat), i + n = N → Wn G m_X0_cheapestMix (d + 1) 37 [(0, .ref a), (1, .int need), (2, .int lo), (3, .int hi), (4, .int (nI N)), (5, .int (bst σ tb nt need lo hi i).1), (6, .int (bst σ tb nt need lo hi i).2), (7, .int (nI i))] [] X M Q
  | 0, i, h => by
    have hi : i = N := h
    subst hi
    exact bX0_cheapestMix_37 hS ⟨fun _ => hq, fun q => absurd (Int32.le_refl _) q⟩
  | n + 1, i, h => by
    have ih := cl_mix_37 G d hd hS hT hN hq n (i + 1) (by omega)
    refine bX0_cheapestMix_37 hS ⟨fun q => ?_, fun _ => ⟨_, cp_X0_priceIn G d (by omega) X M a nt i σ tb hS hT (by omega), ?_⟩⟩
    · have := (nI_leI (by omega) (by omega)).mp q
      omega
    rintro M4 r5 ⟨e, rfl⟩
    have e := e.symm
    subst e
    rw [nI_1]
    have go : (bst σ tb nt need lo hi i).1 < 0 ∨ s_sum (tP σ tb nt i) 0 nt < (bst σ tb nt need lo hi i).2 → ∃ q8 : Mm → Int32 → Prop, Cn G m_X0_suits d [.ref a, .int (nI i), .int need, .int lo, .int hi] X M q8 ∧ ∀ M10 r11, q8 M10 r11 → ((r11 = 0 → Wn G m_X0_cheapestMix (d + 1) 37 [(0, .ref a), (1, .int need), (2, .int lo), (3, .int hi), (4, .int (nI N)), (5, .int (bst σ tb nt need lo hi i).1), (6, .int (bst σ tb nt need lo hi i).2), (7, .int (nI (i + 1)))] [] X M10 Q) ∧ (¬ (r11 = 0) → Wn G m_X0_cheapestMix (d + 1) 37 [(0, .ref a), (1, .int need), (2, .int lo), (3, .int hi), (4, .int (nI N)), (5, .int (nI i)), (6, .int (s_sum (tP σ tb nt i) 0 nt)), (7, .int (nI (i + 1)))] [] X M10 Q)) := fun h1 => by
      refine ⟨_, cp_X0_suits G d (by omega) X M a nt i need lo hi σ tb hS hT (by omega), ?_⟩
      rintro M10 r11 ⟨e, e11⟩
      have e := e.symm
      subst e
      refine ⟨fun q => ?_, fun q => ?_⟩
      · rw [bst_no (fun z => (e11.mp q) z.2)] at ih
        exact ih
      · rw [bst_yes h1 (Decidable.byContradiction (dec := Classical.propDecidable _) (fun z => q (e11.mpr z)))] at ih
        exact ih
    refine ⟨fun h1 => go (Or.inl h1), fun h1 => ⟨fun h2 => ?_, fun h2 => go (Or.inr (i_nle.mp h2))⟩⟩
    rw [bst_no (fun z => z.1.elim h1 (fun y => i_nle.mpr y h2))] at ih
    exact ih
theorem cl_mix_6 (G : Gl) (d : Nat) (hd : 4 ≤ d) {X : Sh} {M : Mm} {a nt : Nat} {need lo hi : Int32} {σ : Nat → Int32} {tb : Nat → Nat} {Q : Mm → Int32 → Prop} (hS : Sh0 X a) (hT : Tld M a σ nt tb) (hq : Q M (bst σ tb nt need lo hi (10 ^ nt)).1) :
    ∀ (n i : Nat), i + n = nt → Wn G m_X0_cheapestMix (d + 1) 6 [(0, .ref a), (1, .int need), (2, .int lo), (3, .int hi), (4, .int (nI (10 ^ i))), (5, .int (nI i))] [] X M Q
  | 0, i, h => by
    have hi' : i = nt := h
    subst hi'
    have le : 10 ^ i ≤ 1000 := Nat.pow_le_pow_right (n := 10) (by omega) hT.2.1
    exact bX0_cheapestMix_6 hS ⟨fun _ => cl_mix_37 G d hd hS hT le hq (10 ^ i) 0 (by omega), fun q => absurd (by rw [hT.1]; exact Int32.le_refl _) q⟩
  | n + 1, i, h => by
    obtain ⟨t1, t2, t3⟩ := id hT
    refine bX0_cheapestMix_6 hS ⟨fun q => ?_, fun _ => ?_⟩
    · rw [t1] at q
      have := (nI_leI (by omega) (by omega)).mp q
      omega
    intro v2 e2
    have e2 : v2 = nI (10 ^ (i + 1)) := by
      rw [e2, n_lit 10, pk_mul]
      rfl
    subst e2
    rw [nI_1]
    exact cl_mix_6 G d hd hS hT hq n (i + 1) (by omega)
theorem cp_X0_cheapestMix (G : Gl) (d : Nat) (hd : 5 ≤ d) (X : Sh) (M : Mm) (a nt : Nat) (need lo hi : Int32) (σ : Nat → Int32) (tb : Nat → Nat) (hS : Sh0 X a) (hT : Tld M a σ nt tb) : Cn G m_X0_cheapestMix d [.ref a, .int need, .int lo, .int hi] X M (fun M2 r => M2 = M ∧ r = (bst σ tb nt need lo hi (10 ^ nt)).1) := by
  obtain ⟨d, rfl⟩ : ∃ d1, d = d1 + 1 := ⟨d - 1, by omega⟩
  exact Cn.of (by decide) (Nat.le_of_ble_eq_true rfl) (bX0_cheapestMix_0 hS (cl_mix_6 G d (by omega) hS hT ⟨rfl, rfl⟩ nt 0 (by omega)))
/-- a sum that begins at its end -/
def r_sum (f : Nat → Int32) : Nat → Int32 → Int32
  | 0, z => z
  | n + 1, z => r_sum f n (z + f n)
theorem s_sum_z (f : Nat → Int32) (z y : Int32) : ∀ n, s_sum f (z + y) n = s_sum f z n + y
  | 0 => rfl
  | n + 1 => by
    show s_sum f (z + y) n + f n = s_sum f z n + f n + y
    rw [s_sum_z f z y n, Int32.add_assoc, Int32.add_assoc, Int32.add_comm y]
theorem r_sum_eq (f : Nat → Int32) : ∀ n z, r_sum f n z = s_sum f z n
  | 0, _ => rfl
  | n + 1, z => by
    show r_sum f n (z + f n) = s_sum f z n + f n
    rw [r_sum_eq f n, s_sum_z]
/-- the reference's term of the told bin k -/
def tR (σ : Nat → Int32) (tb : Nat → Nat) (w : Int32) (nt mix k : Nat) : Int32 := if w = 0 then 10 * nI (dgt nt mix k) * σ (22 + 5 * tb k) else g_amt (σ (20 + 5 * tb k)) (σ (21 + 5 * tb k)) (10 * nI (dgt nt mix k)) w
/-- the told bins in the flat row -/
def TlR (σ : Nat → Int32) (nt : Nat) (tb : Nat → Nat) : Prop := σ 3 = nI nt ∧ nt ≤ 3 ∧ ∀ k, k < nt → tb k < 6 ∧ σ (310 + k) = nI (tb k)
theorem bX10_burden_0 {G : Gl} {d : Nat} {X : Sh} {M : Mm} {Q : Mm → Int32 → Prop} {a : Nat} {x1 : Int32} {x2 : Int32} {x3 : Int32} (hS : Sh9 X a) (h : ((¬ (0 ≤ x1 ∧ x1 ≤ 9999) → Q M (-1000000001)) ∧ (0 ≤ x1 ∧ x1 ≤ 9999 → ((¬ (0 ≤ x2 ∧ x2 ≤ 999999) → Q M (-1000000001)) ∧ (0 ≤ x2 ∧ x2 ≤ 999999 → (((x2 / 1000) ≤ (x2 - x2 / 1000 * 1000) → (((-1) ≤ x3 ∧ x3 ≤ ((mI M ((a + 1) + 1) 7) - 1) → (∃ q5 : Mm → Int32 → Prop, Cn G m_X0_cheapestMix d [.ref ((a + 1) + 1), .int x1, .int ((x2 / 1000)), .int ((x2 - x2 / 1000 * 1000))] X M q5 ∧ ∀ M7 r8, q5 M7 r8 → ((0 ≤ r8 → ((0 ≤ x3 → (∃ q12 : Mm → Int32 → Prop, Cn G m_X0_tensIn d [.ref ((a + 1) + 1), .int r8, .int x3] X M7 q12 ∧ ∀ M14 r15, q12 M14 r15 → Q M14 r15)) ∧ (¬ (0 ≤ x3) → (∃ q17 : Mm → Int32 → Prop, Cn G m_X0_priceIn d [.ref ((a + 1) + 1), .int r8] X M7 q17 ∧ ∀ M19 r20, q17 M19 r20 → Q M19 r20)))) ∧ (¬ (0 ≤ r8) → Q M7 (-1000000005))))) ∧ (¬ ((-1) ≤ x3 ∧ x3 ≤ ((mI M ((a + 1) + 1) 7) - 1)) → Q M (-1000000001)))) ∧ (¬ ((x2 / 1000) ≤ (x2 - x2 / 1000 * 1000)) → Q M (-1000000001)))))))) : Wn G m_X10_burden (d + 1) 0 [(0, .ref a), (1, .int x1), (2, .int x2), (3, .int x3)] [] X M Q := by
  refine wp_iload_n 1 dX10_burden_0 rfl rfl ?_
  refine wp_iconst (v := 0) dX10_burden_1 rfl ?_
  refine wp_sipush (v := 9999) dX10_burden_2 rfl ?_
  refine wp_csip dX10_burden_5 ck_RX10_63 rfl (as := [.int x1, .int 0, .int 9999]) rfl rfl (Nat.le_of_ble_eq_true rfl) (cp_X10_isWithin G d X M x1 0 9999) ?_
  refine wp_ifB_eq (inferInstance) (tgt := 34) dX10_burden_8 (by decide) (fun c1 => ?_) (fun c1 => ?_)
  · replace h := h.1 c1
    refine wp_ldc dX10_burden_34 kc_RX10_67 ?_
    exact wn_iret dX10_burden_36 rfl h
  · replace h := h.2 c1
    refine wp_iload_n 2 dX10_burden_11 rfl rfl ?_
    refine wp_iconst (v := 0) dX10_burden_12 rfl ?_
    refine wp_ldc dX10_burden_13 kc_RX10_240 ?_
    refine wp_csip dX10_burden_15 ck_RX10_63 rfl (as := [.int x2, .int 0, .int 999999]) rfl rfl (Nat.le_of_ble_eq_true rfl) (cp_X10_isWithin G d X M x2 0 999999) ?_
    refine wp_ifB_eq (inferInstance) (tgt := 34) dX10_burden_18 (by decide) (fun c2 => ?_) (fun c2 => ?_)
    · replace h := h.1 c2
      refine wp_ldc dX10_burden_34 kc_RX10_67 ?_
      exact wn_iret dX10_burden_36 rfl h
    · replace h := h.2 c2
      refine wp_iload_n 2 dX10_burden_21 rfl rfl ?_
      refine wp_sipush (v := 1000) dX10_burden_22 rfl ?_
      refine wp_idiv dX10_burden_25 (by decide) ?_
      refine wp_iload_n 2 dX10_burden_26 rfl rfl ?_
      refine wp_sipush (v := 1000) dX10_burden_27 rfl ?_
      refine wp_irem dX10_burden_30 (by decide) ?_
      refine wp_icmp_le (tgt := 37) dX10_burden_31 (by decide) (fun c3 => ?_) (fun c3 => ?_)
      · replace h := h.1 c3
        refine wp_iload_n 3 dX10_burden_37 rfl rfl ?_
        refine wp_iconst (v := (-1)) dX10_burden_38 rfl ?_
        refine wp_aload_n 0 dX10_burden_39 rfl rfl ?_
        refine wp_getR dX10_burden_40 fl_RX10_10 rfl (sh9_K hS) (sh9_F_house hS) ?_
        refine wp_getR dX10_burden_43 fl_RX10_68 rfl (sh2_K (sh9_S_house hS)) (sh2_F_bins (sh9_S_house hS)) ?_
        refine wp_getI dX10_burden_46 fl_RX10_237 rfl (sh0_K (sh2_S_bins (sh9_S_house hS))) ?_
        refine wp_iconst (v := 1) dX10_burden_49 rfl ?_
        refine wp_isub dX10_burden_50 ?_
        refine wp_csip dX10_burden_51 ck_RX10_63 rfl (as := [.int x3, .int (-1), .int (((mI M ((a + 1) + 1) 7) - 1))]) rfl rfl (Nat.le_of_ble_eq_true rfl) (cp_X10_isWithin G d X M x3 (-1) ((mI M ((a + 1) + 1) 7) - 1)) ?_
        refine wp_ifB_ne (inferInstance) (tgt := 60) dX10_burden_54 (by decide) (fun c4 => ?_) (fun c4 => ?_)
        · replace h := h.1 c4
          refine wp_aload_n 0 dX10_burden_60 rfl rfl ?_
          refine wp_getR dX10_burden_61 fl_RX10_10 rfl (sh9_K hS) (sh9_F_house hS) ?_
          refine wp_getR dX10_burden_64 fl_RX10_68 rfl (sh2_K (sh9_S_house hS)) (sh2_F_bins (sh9_S_house hS)) ?_
          refine wp_iload_n 1 dX10_burden_67 rfl rfl ?_
          refine wp_iload_n 2 dX10_burden_68 rfl rfl ?_
          refine wp_sipush (v := 1000) dX10_burden_69 rfl ?_
          refine wp_idiv dX10_burden_72 (by decide) ?_
          refine wp_iload_n 2 dX10_burden_73 rfl rfl ?_
          refine wp_sipush (v := 1000) dX10_burden_74 rfl ?_
          refine wp_irem dX10_burden_77 (by decide) ?_
          obtain ⟨q5, o6, h⟩ := h
          refine wp_cvi dX10_burden_78 ck_RX10_241 (sh0_K (sh2_S_bins (sh9_S_house hS))) (as := [.int x1, .int ((x2 / 1000)), .int ((x2 - x2 / 1000 * 1000))]) rfl rfl (Nat.le_of_ble_eq_true rfl) o6 (fun M7 r8 o9 => ?_)
          replace h := h M7 r8 o9
          refine wp_istore (lo2 := [(4, .int _), (0, .ref _), (1, .int _), (2, .int _), (3, .int _)]) dX10_burden_81 (by decide) rfl ?_
          refine wp_iload 0 dX10_burden_83 rfl ?_
          refine wp_if_ge (tgt := 91) dX10_burden_85 (by decide) (fun c10 => ?_) (fun c10 => ?_)
          · replace h := h.1 c10
            refine wp_iload_n 4 dX10_burden_91 rfl rfl ?_
            refine wp_if_ge (tgt := 110) dX10_burden_92 (by decide) (fun c11 => ?_) (fun c11 => ?_)
            · replace h := h.1 c11
              refine wp_aload_n 1 dX10_burden_110 rfl rfl ?_
              refine wp_getR dX10_burden_111 fl_RX10_10 rfl (sh9_K hS) (sh9_F_house hS) ?_
              refine wp_getR dX10_burden_114 fl_RX10_68 rfl (sh2_K (sh9_S_house hS)) (sh2_F_bins (sh9_S_house hS)) ?_
              refine wp_iload 0 dX10_burden_117 rfl ?_
              refine wp_iload_n 4 dX10_burden_119 rfl rfl ?_
              obtain ⟨q12, o13, h⟩ := h
              refine wp_cvi dX10_burden_120 ck_RX10_247 (sh0_K (sh2_S_bins (sh9_S_house hS))) (as := [.int r8, .int x3]) rfl rfl (Nat.le_of_ble_eq_true rfl) o13 (fun M14 r15 o16 => ?_)
              replace h := h M14 r15 o16
              exact wn_iret dX10_burden_123 rfl h
            · replace h := h.2 c11
              refine wp_aload_n 1 dX10_burden_95 rfl rfl ?_
              refine wp_getR dX10_burden_96 fl_RX10_10 rfl (sh9_K hS) (sh9_F_house hS) ?_
              refine wp_getR dX10_burden_99 fl_RX10_68 rfl (sh2_K (sh9_S_house hS)) (sh2_F_bins (sh9_S_house hS)) ?_
              refine wp_iload 0 dX10_burden_102 rfl ?_
              obtain ⟨q17, o18, h⟩ := h
              refine wp_cvi dX10_burden_104 ck_RX10_244 (sh0_K (sh2_S_bins (sh9_S_house hS))) (as := [.int r8]) rfl rfl (Nat.le_of_ble_eq_true rfl) o18 (fun M19 r20 o21 => ?_)
              replace h := h M19 r20 o21
              refine wp_goto (tgt := 123) dX10_burden_107 (by decide) ?_
              exact wn_iret dX10_burden_123 rfl h
          · replace h := h.2 c10
            refine wp_ldc dX10_burden_88 kc_RX10_199 ?_
            exact wn_iret dX10_burden_90 rfl h
        · replace h := h.2 c4
          refine wp_ldc dX10_burden_57 kc_RX10_67 ?_
          exact wn_iret dX10_burden_59 rfl h
      · replace h := h.2 c3
        refine wp_ldc dX10_burden_34 kc_RX10_67 ?_
        exact wn_iret dX10_burden_36 rfl h
theorem bX11_ofBurden_0 {G : Gl} {d : Nat} {X : Sh} {M : Mm} {Q : Mm → Int32 → Prop} {a : Nat} {x1 : Int32} {x2 : Int32} (hS : Sh10 X a) (h : (∀ v1 : Int32, v1 = ((mI M (a + 1) 3) - 1) → Wn G m_X11_ofBurden (d + 1) 15 [(0, .ref a), (2, .int x2), (3, .int x1), (4, .int 0), (5, .int v1)] [] X M Q)) : Wn G m_X11_ofBurden (d + 1) 0 [(0, .ref a), (1, .int x1), (2, .int x2)] [] X M Q := by
  refine wp_iload_n 1 dX11_ofBurden_0 rfl rfl ?_
  refine wp_istore_n (lo2 := [(3, .int _), (0, .ref _), (1, .int _), (2, .int _)]) dX11_ofBurden_1 rfl (by decide) rfl ?_
  refine wp_iconst (v := 0) dX11_ofBurden_2 rfl ?_
  refine wp_istore (lo2 := [(4, .int _), (3, .int _), (0, .ref _), (1, .int _), (2, .int _)]) dX11_ofBurden_3 (by decide) rfl ?_
  refine wp_aload_n 2 dX11_ofBurden_5 rfl rfl ?_
  refine wp_getR dX11_ofBurden_6 fl_RX11_7 rfl (sh10_K hS) (sh10_F_s hS) ?_
  refine wp_iconst (v := 3) dX11_ofBurden_9 rfl ?_
  refine wp_iald (n := 2950) dX11_ofBurden_10 (sh10_K_s hS) (sh10_N_s hS) (by decide) rfl (by decide) ?_
  refine wp_iconst (v := 1) dX11_ofBurden_11 rfl ?_
  refine wp_isub dX11_ofBurden_12 ?_
  refine wp_topi (fun v1 ev1 => ?_)
  replace h := h v1 ev1
  refine wp_istore (lo2 := [(5, .int _), (4, .int _), (3, .int _), (0, .ref _), (1, .int _), (2, .int _)]) dX11_ofBurden_13 (by decide) rfl ?_
  exact Wp.sub [3, 5, 2, 1, 0] rfl h
theorem bX11_ofBurden_15 {G : Gl} {d : Nat} {X : Sh} {M : Mm} {Q : Mm → Int32 → Prop} {a : Nat} {x2 : Int32} {x3 : Int32} {x4 : Int32} {x5 : Int32} (hS : Sh10 X a) (h : ((x5 < 0 → Q M x4) ∧ (¬ (x5 < 0) → (∃ j2 : Nat, (310 + x5) = nI j2 ∧ j2 < 2950 ∧ (∀ v5 : Int32, v5 = (mI M (a + 1) j2) → (∀ v6 : Int32, v6 = (10 * (x3 - x3 / 10 * 10)) → ((¬ (x2 = 0) → (∃ q8 : Mm → Int32 → Prop, Cn G m_X11_brings d [.ref a, .int v5, .int v6, .int x2] X M q8 ∧ ∀ M10 r11, q8 M10 r11 → (∀ v13 : Int32, v13 = (x4 + r11) → (∀ v14 : Int32, v14 = (x3 / 10) → Wn G m_X11_ofBurden (d + 1) 15 [(0, .ref a), (2, .int x2), (3, .int v14), (4, .int v13), (5, .int (x5 + (-1)))] [] X M10 Q)))) ∧ (x2 = 0 → (∃ j15 : Nat, ((20 + 5 * v5) + 2) = nI j15 ∧ j15 < 2950 ∧ (∀ v18 : Int32, v18 = (x4 + (v6 * (mI M (a + 1) j15))) → (∀ v19 : Int32, v19 = (x3 / 10) → Wn G m_X11_ofBurden (d + 1) 15 [(0, .ref a), (2, .int x2), (3, .int v19), (4, .int v18), (5, .int (x5 + (-1)))] [] X M Q))))))))))) : Wn G m_X11_ofBurden (d + 1) 15 [(0, .ref a), (2, .int x2), (3, .int x3), (4, .int x4), (5, .int x5)] [] X M Q := by
  refine wp_iload 4 dX11_ofBurden_15 rfl ?_
  refine wp_if_lt (tgt := 90) dX11_ofBurden_17 (by decide) (fun c1 => ?_) (fun c1 => ?_)
  · replace h := h.1 c1
    refine wp_iload 3 dX11_ofBurden_90 rfl ?_
    exact wn_iret dX11_ofBurden_92 rfl h
  · replace h := h.2 c1
    refine wp_aload_n 0 dX11_ofBurden_20 rfl rfl ?_
    refine wp_getR dX11_ofBurden_21 fl_RX11_7 rfl (sh10_K hS) (sh10_F_s hS) ?_
    refine wp_sipush (v := 310) dX11_ofBurden_24 rfl ?_
    refine wp_iload 4 dX11_ofBurden_27 rfl ?_
    refine wp_iadd dX11_ofBurden_29 ?_
    obtain ⟨j2, o3, o4, h⟩ := h
    refine wp_iald (n := 2950) dX11_ofBurden_30 (sh10_K_s hS) (sh10_N_s hS) (by decide) o3 o4 ?_
    refine wp_topi (fun v5 ev5 => ?_)
    replace h := h v5 ev5
    refine wp_istore (lo2 := [(6, .int _), (0, .ref _), (2, .int _), (3, .int _), (4, .int _), (5, .int _)]) dX11_ofBurden_31 (by decide) rfl ?_
    refine wp_bipush (v := 10) dX11_ofBurden_33 rfl ?_
    refine wp_iload_n 3 dX11_ofBurden_35 rfl rfl ?_
    refine wp_bipush (v := 10) dX11_ofBurden_36 rfl ?_
    refine wp_irem dX11_ofBurden_38 (by decide) ?_
    refine wp_imul dX11_ofBurden_39 ?_
    refine wp_topi (fun v6 ev6 => ?_)
    replace h := h v6 ev6
    refine wp_istore (lo2 := [(7, .int _), (6, .int _), (0, .ref _), (2, .int _), (3, .int _), (4, .int _), (5, .int _)]) dX11_ofBurden_40 (by decide) rfl ?_
    refine wp_iload 5 dX11_ofBurden_42 rfl ?_
    refine wp_iload_n 3 dX11_ofBurden_44 rfl rfl ?_
    refine wp_if_ne (tgt := 67) dX11_ofBurden_45 (by decide) (fun c7 => ?_) (fun c7 => ?_)
    · replace h := h.1 c7
      refine wp_aload_n 2 dX11_ofBurden_67 rfl rfl ?_
      refine wp_iload 1 dX11_ofBurden_68 rfl ?_
      refine wp_iload 0 dX11_ofBurden_70 rfl ?_
      refine wp_iload_n 3 dX11_ofBurden_72 rfl rfl ?_
      obtain ⟨q8, o9, h⟩ := h
      refine wp_cvi dX11_ofBurden_73 ck_RX11_117 (sh10_K hS) (as := [.int v5, .int v6, .int x2]) rfl rfl (Nat.le_of_ble_eq_true rfl) o9 (fun M10 r11 o12 => ?_)
      replace h := h M10 r11 o12
      refine wp_iadd dX11_ofBurden_76 ?_
      refine wp_topi (fun v13 ev13 => ?_)
      replace h := h v13 ev13
      refine wp_istore (lo2 := [(4, .int _), (7, .int _), (6, .int _), (0, .ref _), (2, .int _), (3, .int _), (5, .int _)]) dX11_ofBurden_77 (by decide) rfl ?_
      refine wp_iload_n 5 dX11_ofBurden_79 rfl rfl ?_
      refine wp_bipush (v := 10) dX11_ofBurden_80 rfl ?_
      refine wp_idiv dX11_ofBurden_82 (by decide) ?_
      refine wp_topi (fun v14 ev14 => ?_)
      replace h := h v14 ev14
      refine wp_istore_n (lo2 := [(3, .int _), (4, .int _), (7, .int _), (6, .int _), (0, .ref _), (2, .int _), (5, .int _)]) dX11_ofBurden_83 rfl (by decide) rfl ?_
      refine wp_iinc (v := x5 + (-1)) (lo2 := [(5, .int _), (3, .int _), (4, .int _), (7, .int _), (6, .int _), (0, .ref _), (2, .int _)]) dX11_ofBurden_84 (q := 6) rfl rfl (by decide) rfl ?_
      refine wp_goto (tgt := 15) dX11_ofBurden_87 (by decide) ?_
      exact Wp.sub [5, 6, 1, 2, 0] rfl h
    · replace h := h.2 c7
      refine wp_iload 0 dX11_ofBurden_48 rfl ?_
      refine wp_aload_n 2 dX11_ofBurden_50 rfl rfl ?_
      refine wp_getR dX11_ofBurden_51 fl_RX11_7 rfl (sh10_K hS) (sh10_F_s hS) ?_
      refine wp_aload_n 2 dX11_ofBurden_54 rfl rfl ?_
      refine wp_iload 1 dX11_ofBurden_55 rfl ?_
      refine wp_cvip dX11_ofBurden_57 ck_RX11_86 (sh10_K hS) (as := [.int v5]) rfl rfl (Nat.le_of_ble_eq_true rfl) (cp_X11_binAt G d X M a v5 hS) ?_
      refine wp_iconst (v := 2) dX11_ofBurden_60 rfl ?_
      refine wp_iadd dX11_ofBurden_61 ?_
      obtain ⟨j15, o16, o17, h⟩ := h
      refine wp_iald (n := 2950) dX11_ofBurden_62 (sh10_K_s hS) (sh10_N_s hS) (by decide) o16 o17 ?_
      refine wp_imul dX11_ofBurden_63 ?_
      refine wp_goto (tgt := 76) dX11_ofBurden_64 (by decide) ?_
      refine wp_iadd dX11_ofBurden_76 ?_
      refine wp_topi (fun v18 ev18 => ?_)
      replace h := h v18 ev18
      refine wp_istore (lo2 := [(4, .int _), (7, .int _), (6, .int _), (0, .ref _), (2, .int _), (3, .int _), (5, .int _)]) dX11_ofBurden_77 (by decide) rfl ?_
      refine wp_iload_n 5 dX11_ofBurden_79 rfl rfl ?_
      refine wp_bipush (v := 10) dX11_ofBurden_80 rfl ?_
      refine wp_idiv dX11_ofBurden_82 (by decide) ?_
      refine wp_topi (fun v19 ev19 => ?_)
      replace h := h v19 ev19
      refine wp_istore_n (lo2 := [(3, .int _), (4, .int _), (7, .int _), (6, .int _), (0, .ref _), (2, .int _), (5, .int _)]) dX11_ofBurden_83 rfl (by decide) rfl ?_
      refine wp_iinc (v := x5 + (-1)) (lo2 := [(5, .int _), (3, .int _), (4, .int _), (7, .int _), (6, .int _), (0, .ref _), (2, .int _)]) dX11_ofBurden_84 (q := 6) rfl rfl (by decide) rfl ?_
      refine wp_goto (tgt := 15) dX11_ofBurden_87 (by decide) ?_
      exact Wp.sub [5, 6, 1, 2, 0] rfl h
theorem bX11_burden_0 {G : Gl} {d : Nat} {X : Sh} {M : Mm} {Q : Mm → Int32 → Prop} {a : Nat} {x1 : Int32} {x2 : Int32} {x3 : Int32} (hS : Sh10 X a) (h : (∀ v1 : Int32, v1 = (x2 / 1000) → (∀ v2 : Int32, v2 = (x2 - x2 / 1000 * 1000) → ((¬ (0 ≤ x1 ∧ x1 ≤ 9999) → Q M (-1000000001)) ∧ (0 ≤ x1 ∧ x1 ≤ 9999 → ((¬ (0 ≤ x2 ∧ x2 ≤ 999999) → Q M (-1000000001)) ∧ (0 ≤ x2 ∧ x2 ≤ 999999 → ((v2 < v1 → Q M (-1000000001)) ∧ (¬ (v2 < v1) → (((-1) ≤ x3 ∧ x3 ≤ ((mI M (a + 1) 3) - 1) → ((¬ ((mI M (a + 1) 3) = 0) → ((¬ ((mI M (a + 1) 3) = 1) → (∀ v11 : Int32, v11 = (if (mI M (a + 1) 3) = 2 then 100 else 1000) → Wn G m_X11_burden (d + 1) 125 [(0, .ref a), (1, .int x1), (3, .int x3), (4, .int v1), (5, .int v2), (6, .int v11), (7, .int (-1)), (8, .int 0), (9, .int 0)] [] X M Q)) ∧ ((mI M (a + 1) 3) = 1 → Wn G m_X11_burden (d + 1) 125 [(0, .ref a), (1, .int x1), (3, .int x3), (4, .int v1), (5, .int v2), (6, .int 10), (7, .int (-1)), (8, .int 0), (9, .int 0)] [] X M Q))) ∧ ((mI M (a + 1) 3) = 0 → Wn G m_X11_burden (d + 1) 125 [(0, .ref a), (1, .int x1), (3, .int x3), (4, .int v1), (5, .int v2), (6, .int 1), (7, .int (-1)), (8, .int 0), (9, .int 0)] [] X M Q))) ∧ (¬ ((-1) ≤ x3 ∧ x3 ≤ ((mI M (a + 1) 3) - 1)) → Q M (-1000000001)))))))))))) : Wn G m_X11_burden (d + 1) 0 [(0, .ref a), (1, .int x1), (2, .int x2), (3, .int x3)] [] X M Q := by
  refine wp_iload_n 2 dX11_burden_0 rfl rfl ?_
  refine wp_sipush (v := 1000) dX11_burden_1 rfl ?_
  refine wp_idiv dX11_burden_4 (by decide) ?_
  refine wp_topi (fun v1 ev1 => ?_)
  replace h := h v1 ev1
  refine wp_istore (lo2 := [(4, .int _), (0, .ref _), (1, .int _), (2, .int _), (3, .int _)]) dX11_burden_5 (by decide) rfl ?_
  refine wp_iload_n 3 dX11_burden_7 rfl rfl ?_
  refine wp_sipush (v := 1000) dX11_burden_8 rfl ?_
  refine wp_irem dX11_burden_11 (by decide) ?_
  refine wp_topi (fun v2 ev2 => ?_)
  replace h := h v2 ev2
  refine wp_istore (lo2 := [(5, .int _), (4, .int _), (0, .ref _), (1, .int _), (2, .int _), (3, .int _)]) dX11_burden_12 (by decide) rfl ?_
  refine wp_iload_n 3 dX11_burden_14 rfl rfl ?_
  refine wp_i2l dX11_burden_15 ?_
  refine wp_lconst (v := 0) dX11_burden_16 rfl ?_
  refine wp_ldc2 dX11_burden_17 kc_RX11_98 ?_
  refine wp_csip dX11_burden_20 ck_RX11_78 rfl (as := [.long x1.toInt64, .long 0, .long 9999]) rfl rfl (Nat.le_of_ble_eq_true rfl) (cp_X11_isIn G d X M x1 0 9999 (by decide) (by decide)) ?_
  refine wp_ifB_eq (inferInstance) (tgt := 65) dX11_burden_23 (by decide) (fun c3 => ?_) (fun c3 => ?_)
  · replace h := h.1 c3
    refine wp_ldc dX11_burden_65 kc_RX11_100 ?_
    exact wn_iret dX11_burden_67 rfl h
  · replace h := h.2 c3
    refine wp_iload_n 4 dX11_burden_26 rfl rfl ?_
    refine wp_i2l dX11_burden_27 ?_
    refine wp_lconst (v := 0) dX11_burden_28 rfl ?_
    refine wp_ldc2 dX11_burden_29 kc_RX11_315 ?_
    refine wp_csip dX11_burden_32 ck_RX11_78 rfl (as := [.long x2.toInt64, .long 0, .long 999999]) rfl rfl (Nat.le_of_ble_eq_true rfl) (cp_X11_isIn G d X M x2 0 999999 (by decide) (by decide)) ?_
    refine wp_ifB_eq (inferInstance) (tgt := 65) dX11_burden_35 (by decide) (fun c4 => ?_) (fun c4 => ?_)
    · replace h := h.1 c4
      refine wp_ldc dX11_burden_65 kc_RX11_100 ?_
      exact wn_iret dX11_burden_67 rfl h
    · replace h := h.2 c4
      refine wp_iload 1 dX11_burden_38 rfl ?_
      refine wp_iload 0 dX11_burden_40 rfl ?_
      refine wp_icmp_gt (tgt := 65) dX11_burden_42 (by decide) (fun c5 => ?_) (fun c5 => ?_)
      · replace h := h.1 c5
        refine wp_ldc dX11_burden_65 kc_RX11_100 ?_
        exact wn_iret dX11_burden_67 rfl h
      · replace h := h.2 c5
        refine wp_iload_n 5 dX11_burden_45 rfl rfl ?_
        refine wp_i2l dX11_burden_46 ?_
        refine wp_ldc2 dX11_burden_47 kc_RX11_132 ?_
        refine wp_aload_n 2 dX11_burden_50 rfl rfl ?_
        refine wp_getR dX11_burden_51 fl_RX11_7 rfl (sh10_K hS) (sh10_F_s hS) ?_
        refine wp_iconst (v := 3) dX11_burden_54 rfl ?_
        refine wp_iald (n := 2950) dX11_burden_55 (sh10_K_s hS) (sh10_N_s hS) (by decide) rfl (by decide) ?_
        refine wp_iconst (v := 1) dX11_burden_56 rfl ?_
        refine wp_isub dX11_burden_57 ?_
        refine wp_i2l dX11_burden_58 ?_
        refine wp_csip dX11_burden_59 ck_RX11_78 rfl (as := [.long x3.toInt64, .long (-1), .long (((mI M (a + 1) 3) - 1).toInt64)]) rfl rfl (Nat.le_of_ble_eq_true rfl) (cp_X11_isIn G d X M x3 (-1) ((mI M (a + 1) 3) - 1) (by decide) rfl) ?_
        refine wp_ifB_ne (inferInstance) (tgt := 68) dX11_burden_62 (by decide) (fun c6 => ?_) (fun c6 => ?_)
        · replace h := h.1 c6
          refine wp_aload_n 2 dX11_burden_68 rfl rfl ?_
          refine wp_getR dX11_burden_69 fl_RX11_7 rfl (sh10_K hS) (sh10_F_s hS) ?_
          refine wp_iconst (v := 3) dX11_burden_72 rfl ?_
          refine wp_iald (n := 2950) dX11_burden_73 (sh10_K_s hS) (sh10_N_s hS) (by decide) rfl (by decide) ?_
          refine wp_if_ne (tgt := 81) dX11_burden_74 (by decide) (fun c7 => ?_) (fun c7 => ?_)
          · replace h := h.1 c7
            refine wp_aload_n 2 dX11_burden_81 rfl rfl ?_
            refine wp_getR dX11_burden_82 fl_RX11_7 rfl (sh10_K hS) (sh10_F_s hS) ?_
            refine wp_iconst (v := 3) dX11_burden_85 rfl ?_
            refine wp_iald (n := 2950) dX11_burden_86 (sh10_K_s hS) (sh10_N_s hS) (by decide) rfl (by decide) ?_
            refine wp_iconst (v := 1) dX11_burden_87 rfl ?_
            refine wp_icmp_ne (tgt := 96) dX11_burden_88 (by decide) (fun c8 => ?_) (fun c8 => ?_)
            · replace h := h.1 c8
              refine wp_aload_n 2 dX11_burden_96 rfl rfl ?_
              refine wp_getR dX11_burden_97 fl_RX11_7 rfl (sh10_K hS) (sh10_F_s hS) ?_
              refine wp_iconst (v := 3) dX11_burden_100 rfl ?_
              refine wp_iald (n := 2950) dX11_burden_101 (sh10_K_s hS) (sh10_N_s hS) (by decide) rfl (by decide) ?_
              refine wp_iconst (v := 2) dX11_burden_102 rfl ?_
              have K10 : Wp G m_X11_burden (d + 1) 0 0 0 0 114 [(5, .int v2), (4, .int v1), (0, .ref a), (1, .int x1), (2, .int x2), (3, .int x3)] [.int ((if (mI M (a + 1) 3) = 2 then 100 else 1000))] X M (fun X2 M2 v => X2 = X ∧ ∃ x, v = some (.int x) ∧ Q M2 x) := by
                refine wp_topi (fun v11 ev11 => ?_)
                replace h := h v11 ev11
                refine wp_istore (lo2 := [(6, .int _), (5, .int _), (4, .int _), (0, .ref _), (1, .int _), (2, .int _), (3, .int _)]) dX11_burden_114 (by decide) rfl ?_
                refine wp_iconst (v := (-1)) dX11_burden_116 rfl ?_
                refine wp_istore (lo2 := [(7, .int _), (6, .int _), (5, .int _), (4, .int _), (0, .ref _), (1, .int _), (2, .int _), (3, .int _)]) dX11_burden_117 (by decide) rfl ?_
                refine wp_iconst (v := 0) dX11_burden_119 rfl ?_
                refine wp_istore (lo2 := [(8, .int _), (7, .int _), (6, .int _), (5, .int _), (4, .int _), (0, .ref _), (1, .int _), (2, .int _), (3, .int _)]) dX11_burden_120 (by decide) rfl ?_
                refine wp_iconst (v := 0) dX11_burden_122 rfl ?_
                refine wp_istore (lo2 := [(9, .int _), (8, .int _), (7, .int _), (6, .int _), (5, .int _), (4, .int _), (0, .ref _), (1, .int _), (2, .int _), (3, .int _)]) dX11_burden_123 (by decide) rfl ?_
                exact Wp.sub [6, 7, 9, 5, 4, 3, 2, 1, 0] rfl h
              refine wp_icmp_ne (tgt := 111) dX11_burden_103 (by decide) (fun c9 => ?_) (fun c9 => ?_)
              · refine wp_sipush (v := 1000) dX11_burden_111 rfl ?_
                rw [if_neg c9] at K10
                exact K10
              · refine wp_bipush (v := 100) dX11_burden_106 rfl ?_
                refine wp_goto (tgt := 114) dX11_burden_108 (by decide) ?_
                rw [if_pos c9] at K10
                exact K10
            · replace h := h.2 c8
              refine wp_bipush (v := 10) dX11_burden_91 rfl ?_
              refine wp_goto (tgt := 114) dX11_burden_93 (by decide) ?_
              refine wp_istore (lo2 := [(6, .int _), (5, .int _), (4, .int _), (0, .ref _), (1, .int _), (2, .int _), (3, .int _)]) dX11_burden_114 (by decide) rfl ?_
              refine wp_iconst (v := (-1)) dX11_burden_116 rfl ?_
              refine wp_istore (lo2 := [(7, .int _), (6, .int _), (5, .int _), (4, .int _), (0, .ref _), (1, .int _), (2, .int _), (3, .int _)]) dX11_burden_117 (by decide) rfl ?_
              refine wp_iconst (v := 0) dX11_burden_119 rfl ?_
              refine wp_istore (lo2 := [(8, .int _), (7, .int _), (6, .int _), (5, .int _), (4, .int _), (0, .ref _), (1, .int _), (2, .int _), (3, .int _)]) dX11_burden_120 (by decide) rfl ?_
              refine wp_iconst (v := 0) dX11_burden_122 rfl ?_
              refine wp_istore (lo2 := [(9, .int _), (8, .int _), (7, .int _), (6, .int _), (5, .int _), (4, .int _), (0, .ref _), (1, .int _), (2, .int _), (3, .int _)]) dX11_burden_123 (by decide) rfl ?_
              exact Wp.sub [6, 7, 9, 5, 4, 3, 2, 1, 0] rfl h
          · replace h := h.2 c7
            refine wp_iconst (v := 1) dX11_burden_77 rfl ?_
            refine wp_goto (tgt := 114) dX11_burden_78 (by decide) ?_
            refine wp_istore (lo2 := [(6, .int _), (5, .int _), (4, .int _), (0, .ref _), (1, .int _), (2, .int _), (3, .int _)]) dX11_burden_114 (by decide) rfl ?_
            refine wp_iconst (v := (-1)) dX11_burden_116 rfl ?_
            refine wp_istore (lo2 := [(7, .int _), (6, .int _), (5, .int _), (4, .int _), (0, .ref _), (1, .int _), (2, .int _), (3, .int _)]) dX11_burden_117 (by decide) rfl ?_
            refine wp_iconst (v := 0) dX11_burden_119 rfl ?_
            refine wp_istore (lo2 := [(8, .int _), (7, .int _), (6, .int _), (5, .int _), (4, .int _), (0, .ref _), (1, .int _), (2, .int _), (3, .int _)]) dX11_burden_120 (by decide) rfl ?_
            refine wp_iconst (v := 0) dX11_burden_122 rfl ?_
            refine wp_istore (lo2 := [(9, .int _), (8, .int _), (7, .int _), (6, .int _), (5, .int _), (4, .int _), (0, .ref _), (1, .int _), (2, .int _), (3, .int _)]) dX11_burden_123 (by decide) rfl ?_
            exact Wp.sub [6, 7, 9, 5, 4, 3, 2, 1, 0] rfl h
        · replace h := h.2 c6
          refine wp_ldc dX11_burden_65 kc_RX11_100 ?_
          exact wn_iret dX11_burden_67 rfl h
theorem bX11_burden_125 {G : Gl} {d : Nat} {X : Sh} {M : Mm} {Q : Mm → Int32 → Prop} {a : Nat} {x1 : Int32} {x3 : Int32} {x4 : Int32} {x5 : Int32} {x6 : Int32} {x7 : Int32} {x8 : Int32} {x9 : Int32} (hS : Sh10 X a) (h : ((x6 ≤ x9 → ((0 ≤ x7 → (∀ v3 : Int32, v3 = ((mI M (a + 1) 3) - 1) → Wn G m_X11_burden (d + 1) 248 [(3, .int x3), (8, .int x8), (9, .int x7), (10, .int v3)] [] X M Q)) ∧ (¬ (0 ≤ x7) → Q M (-1000000005)))) ∧ (¬ (x6 ≤ x9) → (∃ q4 : Mm → Int32 → Prop, Cn G m_X11_ofBurden d [.ref a, .int x9, .int 0] X M q4 ∧ ∀ M6 r7, q4 M6 r7 → ((x7 < 0 → (∃ q10 : Mm → Int32 → Prop, Cn G m_X11_ofBurden d [.ref a, .int x9, .int 2] X M6 q10 ∧ ∀ M12 r13, q10 M12 r13 → ((¬ (r13 = 0) → (∃ q16 : Mm → Int32 → Prop, Cn G m_X11_ofBurden d [.ref a, .int x9, .int 3] X M12 q16 ∧ ∀ M18 r19, q16 M18 r19 → (¬ (r13 = 0) ∧ (∀ v22 : Int32, v22 = ((100 * r19) / r13) → (∃ q23 : Mm → Int32 → Prop, Cn G m_X11_ofBurden d [.ref a, .int x9, .int 1] X M18 q23 ∧ ∀ M25 r26, q23 M25 r26 → ((r26 < x1 → Wn G m_X11_burden (d + 1) 125 [(0, .ref a), (1, .int x1), (3, .int x3), (4, .int x4), (5, .int x5), (6, .int x6), (7, .int x7), (8, .int x8), (9, .int (x9 + 1))] [] X M25 Q) ∧ (¬ (r26 < x1) → ((¬ (x4 ≤ v22 ∧ v22 ≤ x5) → Wn G m_X11_burden (d + 1) 125 [(0, .ref a), (1, .int x1), (3, .int x3), (4, .int x4), (5, .int x5), (6, .int x6), (7, .int x7), (8, .int x8), (9, .int (x9 + 1))] [] X M25 Q) ∧ (x4 ≤ v22 ∧ v22 ≤ x5 → Wn G m_X11_burden (d + 1) 125 [(0, .ref a), (1, .int x1), (3, .int x3), (4, .int x4), (5, .int x5), (6, .int x6), (7, .int x9), (8, .int r7), (9, .int (x9 + 1))] [] X M25 Q))))))))) ∧ (r13 = 0 → (∃ q30 : Mm → Int32 → Prop, Cn G m_X11_ofBurden d [.ref a, .int x9, .int 1] X M12 q30 ∧ ∀ M32 r33, q30 M32 r33 → ((r33 < x1 → Wn G m_X11_burden (d + 1) 125 [(0, .ref a), (1, .int x1), (3, .int x3), (4, .int x4), (5, .int x5), (6, .int x6), (7, .int x7), (8, .int x8), (9, .int (x9 + 1))] [] X M32 Q) ∧ (¬ (r33 < x1) → ((¬ (x4 ≤ (0 : Int32) ∧ (0 : Int32) ≤ x5) → Wn G m_X11_burden (d + 1) 125 [(0, .ref a), (1, .int x1), (3, .int x3), (4, .int x4), (5, .int x5), (6, .int x6), (7, .int x7), (8, .int x8), (9, .int (x9 + 1))] [] X M32 Q) ∧ (x4 ≤ (0 : Int32) ∧ (0 : Int32) ≤ x5 → Wn G m_X11_burden (d + 1) 125 [(0, .ref a), (1, .int x1), (3, .int x3), (4, .int x4), (5, .int x5), (6, .int x6), (7, .int x9), (8, .int r7), (9, .int (x9 + 1))] [] X M32 Q))))))))) ∧ (¬ (x7 < 0) → ((x8 ≤ r7 → Wn G m_X11_burden (d + 1) 125 [(0, .ref a), (1, .int x1), (3, .int x3), (4, .int x4), (5, .int x5), (6, .int x6), (7, .int x7), (8, .int x8), (9, .int (x9 + 1))] [] X M6 Q) ∧ (¬ (x8 ≤ r7) → (∃ q38 : Mm → Int32 → Prop, Cn G m_X11_ofBurden d [.ref a, .int x9, .int 2] X M6 q38 ∧ ∀ M40 r41, q38 M40 r41 → ((¬ (r41 = 0) → (∃ q44 : Mm → Int32 → Prop, Cn G m_X11_ofBurden d [.ref a, .int x9, .int 3] X M40 q44 ∧ ∀ M46 r47, q44 M46 r47 → (¬ (r41 = 0) ∧ (∀ v50 : Int32, v50 = ((100 * r47) / r41) → (∃ q51 : Mm → Int32 → Prop, Cn G m_X11_ofBurden d [.ref a, .int x9, .int 1] X M46 q51 ∧ ∀ M53 r54, q51 M53 r54 → ((r54 < x1 → Wn G m_X11_burden (d + 1) 125 [(0, .ref a), (1, .int x1), (3, .int x3), (4, .int x4), (5, .int x5), (6, .int x6), (7, .int x7), (8, .int x8), (9, .int (x9 + 1))] [] X M53 Q) ∧ (¬ (r54 < x1) → ((¬ (x4 ≤ v50 ∧ v50 ≤ x5) → Wn G m_X11_burden (d + 1) 125 [(0, .ref a), (1, .int x1), (3, .int x3), (4, .int x4), (5, .int x5), (6, .int x6), (7, .int x7), (8, .int x8), (9, .int (x9 + 1))] [] X M53 Q) ∧ (x4 ≤ v50 ∧ v50 ≤ x5 → Wn G m_X11_burden (d + 1) 125 [(0, .ref a), (1, .int x1), (3, .int x3), (4, .int x4), (5, .int x5), (6, .int x6), (7, .int x9), (8, .int r7), (9, .int (x9 + 1))] [] X M53 Q))))))))) ∧ (r41 = 0 → (∃ q58 : Mm → Int32 → Prop, Cn G m_X11_ofBurden d [.ref a, .int x9, .int 1] X M40 q58 ∧ ∀ M60 r61, q58 M60 r61 → ((r61 < x1 → Wn G m_X11_burden (d + 1) 125 [(0, .ref a), (1, .int x1), (3, .int x3), (4, .int x4), (5, .int x5), (6, .int x6), (7, .int x7), (8, .int x8), (9, .int (x9 + 1))] [] X M60 Q) ∧ (¬ (r61 < x1) → ((¬ (x4 ≤ (0 : Int32) ∧ (0 : Int32) ≤ x5) → Wn G m_X11_burden (d + 1) 125 [(0, .ref a), (1, .int x1), (3, .int x3), (4, .int x4), (5, .int x5), (6, .int x6), (7, .int x7), (8, .int x8), (9, .int (x9 + 1))] [] X M60 Q) ∧ (x4 ≤ (0 : Int32) ∧ (0 : Int32) ≤ x5 → Wn G m_X11_burden (d + 1) 125 [(0, .ref a), (1, .int x1), (3, .int x3), (4, .int x4), (5, .int x5), (6, .int x6), (7, .int x9), (8, .int r7), (9, .int (x9 + 1))] [] X M60 Q)))))))))))))))) : Wn G m_X11_burden (d + 1) 125 [(0, .ref a), (1, .int x1), (3, .int x3), (4, .int x4), (5, .int x5), (6, .int x6), (7, .int x7), (8, .int x8), (9, .int x9)] [] X M Q := by
  refine wp_iload 8 dX11_burden_125 rfl ?_
  refine wp_iload 5 dX11_burden_127 rfl ?_
  refine wp_icmp_ge (tgt := 226) dX11_burden_129 (by decide) (fun c1 => ?_) (fun c1 => ?_)
  · replace h := h.1 c1
    refine wp_iload 6 dX11_burden_226 rfl ?_
    refine wp_if_ge (tgt := 234) dX11_burden_228 (by decide) (fun c2 => ?_) (fun c2 => ?_)
    · replace h := h.1 c2
      refine wp_iload 6 dX11_burden_234 rfl ?_
      refine wp_istore (lo2 := [(9, .int _), (0, .ref _), (1, .int _), (3, .int _), (4, .int _), (5, .int _), (6, .int _), (7, .int _), (8, .int _)]) dX11_burden_236 (by decide) rfl ?_
      refine wp_aload_n 1 dX11_burden_238 rfl rfl ?_
      refine wp_getR dX11_burden_239 fl_RX11_7 rfl (sh10_K hS) (sh10_F_s hS) ?_
      refine wp_iconst (v := 3) dX11_burden_242 rfl ?_
      refine wp_iald (n := 2950) dX11_burden_243 (sh10_K_s hS) (sh10_N_s hS) (by decide) rfl (by decide) ?_
      refine wp_iconst (v := 1) dX11_burden_244 rfl ?_
      refine wp_isub dX11_burden_245 ?_
      refine wp_topi (fun v3 ev3 => ?_)
      replace h := h v3 ev3
      refine wp_istore (lo2 := [(10, .int _), (9, .int _), (0, .ref _), (1, .int _), (3, .int _), (4, .int _), (5, .int _), (6, .int _), (7, .int _), (8, .int _)]) dX11_burden_246 (by decide) rfl ?_
      exact Wp.sub [4, 9, 1, 0] rfl h
    · replace h := h.2 c2
      refine wp_ldc dX11_burden_231 kc_RX11_77 ?_
      exact wn_iret dX11_burden_233 rfl h
  · replace h := h.2 c1
    refine wp_aload_n 0 dX11_burden_132 rfl rfl ?_
    refine wp_iload 8 dX11_burden_133 rfl ?_
    refine wp_iconst (v := 0) dX11_burden_135 rfl ?_
    obtain ⟨q4, o5, h⟩ := h
    refine wp_cvi dX11_burden_136 ck_RX11_317 (sh10_K hS) (as := [.int x9, .int 0]) rfl rfl (Nat.le_of_ble_eq_true rfl) o5 (fun M6 r7 o8 => ?_)
    replace h := h M6 r7 o8
    refine wp_istore (lo2 := [(10, .int _), (0, .ref _), (1, .int _), (3, .int _), (4, .int _), (5, .int _), (6, .int _), (7, .int _), (8, .int _), (9, .int _)]) dX11_burden_139 (by decide) rfl ?_
    refine wp_iload 7 dX11_burden_141 rfl ?_
    refine wp_if_lt (tgt := 153) dX11_burden_143 (by decide) (fun c9 => ?_) (fun c9 => ?_)
    · replace h := h.1 c9
      refine wp_aload_n 1 dX11_burden_153 rfl rfl ?_
      refine wp_iload 9 dX11_burden_154 rfl ?_
      refine wp_iconst (v := 2) dX11_burden_156 rfl ?_
      obtain ⟨q10, o11, h⟩ := h
      refine wp_cvi dX11_burden_157 ck_RX11_317 (sh10_K hS) (as := [.int x9, .int 2]) rfl rfl (Nat.le_of_ble_eq_true rfl) o11 (fun M12 r13 o14 => ?_)
      replace h := h M12 r13 o14
      refine wp_istore (lo2 := [(11, .int _), (10, .int _), (0, .ref _), (1, .int _), (3, .int _), (4, .int _), (5, .int _), (6, .int _), (7, .int _), (8, .int _), (9, .int _)]) dX11_burden_160 (by decide) rfl ?_
      refine wp_iload 0 dX11_burden_162 rfl ?_
      refine wp_if_ne (tgt := 171) dX11_burden_164 (by decide) (fun c15 => ?_) (fun c15 => ?_)
      · replace h := h.1 c15
        refine wp_bipush (v := 100) dX11_burden_171 rfl ?_
        refine wp_aload_n 2 dX11_burden_173 rfl rfl ?_
        refine wp_iload 10 dX11_burden_174 rfl ?_
        refine wp_iconst (v := 3) dX11_burden_176 rfl ?_
        obtain ⟨q16, o17, h⟩ := h
        refine wp_cvi dX11_burden_177 ck_RX11_317 (sh10_K hS) (as := [.int x9, .int 3]) rfl rfl (Nat.le_of_ble_eq_true rfl) o17 (fun M18 r19 o20 => ?_)
        replace h := h M18 r19 o20
        refine wp_imul dX11_burden_180 ?_
        refine wp_iload 0 dX11_burden_181 rfl ?_
        obtain ⟨o21, h⟩ := h
        refine wp_idiv dX11_burden_183 o21 ?_
        refine wp_topi (fun v22 ev22 => ?_)
        replace h := h v22 ev22
        refine wp_istore (lo2 := [(12, .int _), (11, .int _), (10, .int _), (0, .ref _), (1, .int _), (3, .int _), (4, .int _), (5, .int _), (6, .int _), (7, .int _), (8, .int _), (9, .int _)]) dX11_burden_184 (by decide) rfl ?_
        refine wp_aload_n 3 dX11_burden_186 rfl rfl ?_
        refine wp_iload 11 dX11_burden_187 rfl ?_
        refine wp_iconst (v := 1) dX11_burden_189 rfl ?_
        obtain ⟨q23, o24, h⟩ := h
        refine wp_cvi dX11_burden_190 ck_RX11_317 (sh10_K hS) (as := [.int x9, .int 1]) rfl rfl (Nat.le_of_ble_eq_true rfl) o24 (fun M25 r26 o27 => ?_)
        replace h := h M25 r26 o27
        refine wp_iload_n 4 dX11_burden_193 rfl rfl ?_
        refine wp_icmp_lt (tgt := 220) dX11_burden_194 (by decide) (fun c28 => ?_) (fun c28 => ?_)
        · replace h := h.1 c28
          refine wp_iinc (v := x9 + 1) (lo2 := [(9, .int _), (12, .int _), (11, .int _), (10, .int _), (0, .ref _), (1, .int _), (3, .int _), (4, .int _), (5, .int _), (6, .int _), (7, .int _), (8, .int _)]) dX11_burden_220 (q := 11) rfl rfl (by decide) rfl ?_
          refine wp_goto (tgt := 125) dX11_burden_223 (by decide) ?_
          exact Wp.sub [4, 5, 6, 7, 8, 9, 10, 11, 0] rfl h
        · replace h := h.2 c28
          refine wp_iload 0 dX11_burden_197 rfl ?_
          refine wp_i2l dX11_burden_199 ?_
          refine wp_iload 6 dX11_burden_200 rfl ?_
          refine wp_i2l dX11_burden_202 ?_
          refine wp_iload 7 dX11_burden_203 rfl ?_
          refine wp_i2l dX11_burden_205 ?_
          refine wp_csip dX11_burden_206 ck_RX11_78 rfl (as := [.long v22.toInt64, .long x4.toInt64, .long x5.toInt64]) rfl rfl (Nat.le_of_ble_eq_true rfl) (cp_X11_isIn G d X M25 v22 x4 x5 rfl rfl) ?_
          refine wp_ifB_eq (inferInstance) (tgt := 220) dX11_burden_209 (by decide) (fun c29 => ?_) (fun c29 => ?_)
          · replace h := h.1 c29
            refine wp_iinc (v := x9 + 1) (lo2 := [(9, .int _), (12, .int _), (11, .int _), (10, .int _), (0, .ref _), (1, .int _), (3, .int _), (4, .int _), (5, .int _), (6, .int _), (7, .int _), (8, .int _)]) dX11_burden_220 (q := 11) rfl rfl (by decide) rfl ?_
            refine wp_goto (tgt := 125) dX11_burden_223 (by decide) ?_
            exact Wp.sub [4, 5, 6, 7, 8, 9, 10, 11, 0] rfl h
          · replace h := h.2 c29
            refine wp_iload 11 dX11_burden_212 rfl ?_
            refine wp_istore (lo2 := [(7, .int _), (12, .int _), (11, .int _), (10, .int _), (0, .ref _), (1, .int _), (3, .int _), (4, .int _), (5, .int _), (6, .int _), (8, .int _), (9, .int _)]) dX11_burden_214 (by decide) rfl ?_
            refine wp_iload 3 dX11_burden_216 rfl ?_
            refine wp_istore (lo2 := [(8, .int _), (7, .int _), (12, .int _), (11, .int _), (10, .int _), (0, .ref _), (1, .int _), (3, .int _), (4, .int _), (5, .int _), (6, .int _), (9, .int _)]) dX11_burden_218 (by decide) rfl ?_
            refine wp_iinc (v := x9 + 1) (lo2 := [(9, .int _), (8, .int _), (7, .int _), (12, .int _), (11, .int _), (10, .int _), (0, .ref _), (1, .int _), (3, .int _), (4, .int _), (5, .int _), (6, .int _)]) dX11_burden_220 (q := 11) rfl rfl (by decide) rfl ?_
            refine wp_goto (tgt := 125) dX11_burden_223 (by decide) ?_
            exact Wp.sub [6, 7, 8, 9, 10, 11, 2, 1, 0] rfl h
      · replace h := h.2 c15
        refine wp_iconst (v := 0) dX11_burden_167 rfl ?_
        refine wp_goto (tgt := 184) dX11_burden_168 (by decide) ?_
        refine wp_istore (lo2 := [(12, .int _), (11, .int _), (10, .int _), (0, .ref _), (1, .int _), (3, .int _), (4, .int _), (5, .int _), (6, .int _), (7, .int _), (8, .int _), (9, .int _)]) dX11_burden_184 (by decide) rfl ?_
        refine wp_aload_n 3 dX11_burden_186 rfl rfl ?_
        refine wp_iload 11 dX11_burden_187 rfl ?_
        refine wp_iconst (v := 1) dX11_burden_189 rfl ?_
        obtain ⟨q30, o31, h⟩ := h
        refine wp_cvi dX11_burden_190 ck_RX11_317 (sh10_K hS) (as := [.int x9, .int 1]) rfl rfl (Nat.le_of_ble_eq_true rfl) o31 (fun M32 r33 o34 => ?_)
        replace h := h M32 r33 o34
        refine wp_iload_n 4 dX11_burden_193 rfl rfl ?_
        refine wp_icmp_lt (tgt := 220) dX11_burden_194 (by decide) (fun c35 => ?_) (fun c35 => ?_)
        · replace h := h.1 c35
          refine wp_iinc (v := x9 + 1) (lo2 := [(9, .int _), (12, .int _), (11, .int _), (10, .int _), (0, .ref _), (1, .int _), (3, .int _), (4, .int _), (5, .int _), (6, .int _), (7, .int _), (8, .int _)]) dX11_burden_220 (q := 11) rfl rfl (by decide) rfl ?_
          refine wp_goto (tgt := 125) dX11_burden_223 (by decide) ?_
          exact Wp.sub [4, 5, 6, 7, 8, 9, 10, 11, 0] rfl h
        · replace h := h.2 c35
          refine wp_iload 0 dX11_burden_197 rfl ?_
          refine wp_i2l dX11_burden_199 ?_
          refine wp_iload 6 dX11_burden_200 rfl ?_
          refine wp_i2l dX11_burden_202 ?_
          refine wp_iload 7 dX11_burden_203 rfl ?_
          refine wp_i2l dX11_burden_205 ?_
          refine wp_csip dX11_burden_206 ck_RX11_78 rfl (as := [.long ((0 : Int32).toInt64), .long x4.toInt64, .long x5.toInt64]) rfl rfl (Nat.le_of_ble_eq_true rfl) (cp_X11_isIn G d X M32 (0 : Int32) x4 x5 rfl rfl) ?_
          refine wp_ifB_eq (inferInstance) (tgt := 220) dX11_burden_209 (by decide) (fun c36 => ?_) (fun c36 => ?_)
          · replace h := h.1 c36
            refine wp_iinc (v := x9 + 1) (lo2 := [(9, .int _), (12, .int _), (11, .int _), (10, .int _), (0, .ref _), (1, .int _), (3, .int _), (4, .int _), (5, .int _), (6, .int _), (7, .int _), (8, .int _)]) dX11_burden_220 (q := 11) rfl rfl (by decide) rfl ?_
            refine wp_goto (tgt := 125) dX11_burden_223 (by decide) ?_
            exact Wp.sub [4, 5, 6, 7, 8, 9, 10, 11, 0] rfl h
          · replace h := h.2 c36
            refine wp_iload 11 dX11_burden_212 rfl ?_
            refine wp_istore (lo2 := [(7, .int _), (12, .int _), (11, .int _), (10, .int _), (0, .ref _), (1, .int _), (3, .int _), (4, .int _), (5, .int _), (6, .int _), (8, .int _), (9, .int _)]) dX11_burden_214 (by decide) rfl ?_
            refine wp_iload 3 dX11_burden_216 rfl ?_
            refine wp_istore (lo2 := [(8, .int _), (7, .int _), (12, .int _), (11, .int _), (10, .int _), (0, .ref _), (1, .int _), (3, .int _), (4, .int _), (5, .int _), (6, .int _), (9, .int _)]) dX11_burden_218 (by decide) rfl ?_
            refine wp_iinc (v := x9 + 1) (lo2 := [(9, .int _), (8, .int _), (7, .int _), (12, .int _), (11, .int _), (10, .int _), (0, .ref _), (1, .int _), (3, .int _), (4, .int _), (5, .int _), (6, .int _)]) dX11_burden_220 (q := 11) rfl rfl (by decide) rfl ?_
            refine wp_goto (tgt := 125) dX11_burden_223 (by decide) ?_
            exact Wp.sub [6, 7, 8, 9, 10, 11, 2, 1, 0] rfl h
    · replace h := h.2 c9
      refine wp_iload 0 dX11_burden_146 rfl ?_
      refine wp_iload 8 dX11_burden_148 rfl ?_
      refine wp_icmp_ge (tgt := 220) dX11_burden_150 (by decide) (fun c37 => ?_) (fun c37 => ?_)
      · replace h := h.1 c37
        refine wp_iinc (v := x9 + 1) (lo2 := [(9, .int _), (10, .int _), (0, .ref _), (1, .int _), (3, .int _), (4, .int _), (5, .int _), (6, .int _), (7, .int _), (8, .int _)]) dX11_burden_220 (q := 9) rfl rfl (by decide) rfl ?_
        refine wp_goto (tgt := 125) dX11_burden_223 (by decide) ?_
        exact Wp.sub [2, 3, 4, 5, 6, 7, 8, 9, 0] rfl h
      · replace h := h.2 c37
        refine wp_aload_n 1 dX11_burden_153 rfl rfl ?_
        refine wp_iload 9 dX11_burden_154 rfl ?_
        refine wp_iconst (v := 2) dX11_burden_156 rfl ?_
        obtain ⟨q38, o39, h⟩ := h
        refine wp_cvi dX11_burden_157 ck_RX11_317 (sh10_K hS) (as := [.int x9, .int 2]) rfl rfl (Nat.le_of_ble_eq_true rfl) o39 (fun M40 r41 o42 => ?_)
        replace h := h M40 r41 o42
        refine wp_istore (lo2 := [(11, .int _), (10, .int _), (0, .ref _), (1, .int _), (3, .int _), (4, .int _), (5, .int _), (6, .int _), (7, .int _), (8, .int _), (9, .int _)]) dX11_burden_160 (by decide) rfl ?_
        refine wp_iload 0 dX11_burden_162 rfl ?_
        refine wp_if_ne (tgt := 171) dX11_burden_164 (by decide) (fun c43 => ?_) (fun c43 => ?_)
        · replace h := h.1 c43
          refine wp_bipush (v := 100) dX11_burden_171 rfl ?_
          refine wp_aload_n 2 dX11_burden_173 rfl rfl ?_
          refine wp_iload 10 dX11_burden_174 rfl ?_
          refine wp_iconst (v := 3) dX11_burden_176 rfl ?_
          obtain ⟨q44, o45, h⟩ := h
          refine wp_cvi dX11_burden_177 ck_RX11_317 (sh10_K hS) (as := [.int x9, .int 3]) rfl rfl (Nat.le_of_ble_eq_true rfl) o45 (fun M46 r47 o48 => ?_)
          replace h := h M46 r47 o48
          refine wp_imul dX11_burden_180 ?_
          refine wp_iload 0 dX11_burden_181 rfl ?_
          obtain ⟨o49, h⟩ := h
          refine wp_idiv dX11_burden_183 o49 ?_
          refine wp_topi (fun v50 ev50 => ?_)
          replace h := h v50 ev50
          refine wp_istore (lo2 := [(12, .int _), (11, .int _), (10, .int _), (0, .ref _), (1, .int _), (3, .int _), (4, .int _), (5, .int _), (6, .int _), (7, .int _), (8, .int _), (9, .int _)]) dX11_burden_184 (by decide) rfl ?_
          refine wp_aload_n 3 dX11_burden_186 rfl rfl ?_
          refine wp_iload 11 dX11_burden_187 rfl ?_
          refine wp_iconst (v := 1) dX11_burden_189 rfl ?_
          obtain ⟨q51, o52, h⟩ := h
          refine wp_cvi dX11_burden_190 ck_RX11_317 (sh10_K hS) (as := [.int x9, .int 1]) rfl rfl (Nat.le_of_ble_eq_true rfl) o52 (fun M53 r54 o55 => ?_)
          replace h := h M53 r54 o55
          refine wp_iload_n 4 dX11_burden_193 rfl rfl ?_
          refine wp_icmp_lt (tgt := 220) dX11_burden_194 (by decide) (fun c56 => ?_) (fun c56 => ?_)
          · replace h := h.1 c56
            refine wp_iinc (v := x9 + 1) (lo2 := [(9, .int _), (12, .int _), (11, .int _), (10, .int _), (0, .ref _), (1, .int _), (3, .int _), (4, .int _), (5, .int _), (6, .int _), (7, .int _), (8, .int _)]) dX11_burden_220 (q := 11) rfl rfl (by decide) rfl ?_
            refine wp_goto (tgt := 125) dX11_burden_223 (by decide) ?_
            exact Wp.sub [4, 5, 6, 7, 8, 9, 10, 11, 0] rfl h
          · replace h := h.2 c56
            refine wp_iload 0 dX11_burden_197 rfl ?_
            refine wp_i2l dX11_burden_199 ?_
            refine wp_iload 6 dX11_burden_200 rfl ?_
            refine wp_i2l dX11_burden_202 ?_
            refine wp_iload 7 dX11_burden_203 rfl ?_
            refine wp_i2l dX11_burden_205 ?_
            refine wp_csip dX11_burden_206 ck_RX11_78 rfl (as := [.long v50.toInt64, .long x4.toInt64, .long x5.toInt64]) rfl rfl (Nat.le_of_ble_eq_true rfl) (cp_X11_isIn G d X M53 v50 x4 x5 rfl rfl) ?_
            refine wp_ifB_eq (inferInstance) (tgt := 220) dX11_burden_209 (by decide) (fun c57 => ?_) (fun c57 => ?_)
            · replace h := h.1 c57
              refine wp_iinc (v := x9 + 1) (lo2 := [(9, .int _), (12, .int _), (11, .int _), (10, .int _), (0, .ref _), (1, .int _), (3, .int _), (4, .int _), (5, .int _), (6, .int _), (7, .int _), (8, .int _)]) dX11_burden_220 (q := 11) rfl rfl (by decide) rfl ?_
              refine wp_goto (tgt := 125) dX11_burden_223 (by decide) ?_
              exact Wp.sub [4, 5, 6, 7, 8, 9, 10, 11, 0] rfl h
            · replace h := h.2 c57
              refine wp_iload 11 dX11_burden_212 rfl ?_
              refine wp_istore (lo2 := [(7, .int _), (12, .int _), (11, .int _), (10, .int _), (0, .ref _), (1, .int _), (3, .int _), (4, .int _), (5, .int _), (6, .int _), (8, .int _), (9, .int _)]) dX11_burden_214 (by decide) rfl ?_
              refine wp_iload 3 dX11_burden_216 rfl ?_
              refine wp_istore (lo2 := [(8, .int _), (7, .int _), (12, .int _), (11, .int _), (10, .int _), (0, .ref _), (1, .int _), (3, .int _), (4, .int _), (5, .int _), (6, .int _), (9, .int _)]) dX11_burden_218 (by decide) rfl ?_
              refine wp_iinc (v := x9 + 1) (lo2 := [(9, .int _), (8, .int _), (7, .int _), (12, .int _), (11, .int _), (10, .int _), (0, .ref _), (1, .int _), (3, .int _), (4, .int _), (5, .int _), (6, .int _)]) dX11_burden_220 (q := 11) rfl rfl (by decide) rfl ?_
              refine wp_goto (tgt := 125) dX11_burden_223 (by decide) ?_
              exact Wp.sub [6, 7, 8, 9, 10, 11, 2, 1, 0] rfl h
        · replace h := h.2 c43
          refine wp_iconst (v := 0) dX11_burden_167 rfl ?_
          refine wp_goto (tgt := 184) dX11_burden_168 (by decide) ?_
          refine wp_istore (lo2 := [(12, .int _), (11, .int _), (10, .int _), (0, .ref _), (1, .int _), (3, .int _), (4, .int _), (5, .int _), (6, .int _), (7, .int _), (8, .int _), (9, .int _)]) dX11_burden_184 (by decide) rfl ?_
          refine wp_aload_n 3 dX11_burden_186 rfl rfl ?_
          refine wp_iload 11 dX11_burden_187 rfl ?_
          refine wp_iconst (v := 1) dX11_burden_189 rfl ?_
          obtain ⟨q58, o59, h⟩ := h
          refine wp_cvi dX11_burden_190 ck_RX11_317 (sh10_K hS) (as := [.int x9, .int 1]) rfl rfl (Nat.le_of_ble_eq_true rfl) o59 (fun M60 r61 o62 => ?_)
          replace h := h M60 r61 o62
          refine wp_iload_n 4 dX11_burden_193 rfl rfl ?_
          refine wp_icmp_lt (tgt := 220) dX11_burden_194 (by decide) (fun c63 => ?_) (fun c63 => ?_)
          · replace h := h.1 c63
            refine wp_iinc (v := x9 + 1) (lo2 := [(9, .int _), (12, .int _), (11, .int _), (10, .int _), (0, .ref _), (1, .int _), (3, .int _), (4, .int _), (5, .int _), (6, .int _), (7, .int _), (8, .int _)]) dX11_burden_220 (q := 11) rfl rfl (by decide) rfl ?_
            refine wp_goto (tgt := 125) dX11_burden_223 (by decide) ?_
            exact Wp.sub [4, 5, 6, 7, 8, 9, 10, 11, 0] rfl h
          · replace h := h.2 c63
            refine wp_iload 0 dX11_burden_197 rfl ?_
            refine wp_i2l dX11_burden_199 ?_
            refine wp_iload 6 dX11_burden_200 rfl ?_
            refine wp_i2l dX11_burden_202 ?_
            refine wp_iload 7 dX11_burden_203 rfl ?_
            refine wp_i2l dX11_burden_205 ?_
            refine wp_csip dX11_burden_206 ck_RX11_78 rfl (as := [.long ((0 : Int32).toInt64), .long x4.toInt64, .long x5.toInt64]) rfl rfl (Nat.le_of_ble_eq_true rfl) (cp_X11_isIn G d X M60 (0 : Int32) x4 x5 rfl rfl) ?_
            refine wp_ifB_eq (inferInstance) (tgt := 220) dX11_burden_209 (by decide) (fun c64 => ?_) (fun c64 => ?_)
            · replace h := h.1 c64
              refine wp_iinc (v := x9 + 1) (lo2 := [(9, .int _), (12, .int _), (11, .int _), (10, .int _), (0, .ref _), (1, .int _), (3, .int _), (4, .int _), (5, .int _), (6, .int _), (7, .int _), (8, .int _)]) dX11_burden_220 (q := 11) rfl rfl (by decide) rfl ?_
              refine wp_goto (tgt := 125) dX11_burden_223 (by decide) ?_
              exact Wp.sub [4, 5, 6, 7, 8, 9, 10, 11, 0] rfl h
            · replace h := h.2 c64
              refine wp_iload 11 dX11_burden_212 rfl ?_
              refine wp_istore (lo2 := [(7, .int _), (12, .int _), (11, .int _), (10, .int _), (0, .ref _), (1, .int _), (3, .int _), (4, .int _), (5, .int _), (6, .int _), (8, .int _), (9, .int _)]) dX11_burden_214 (by decide) rfl ?_
              refine wp_iload 3 dX11_burden_216 rfl ?_
              refine wp_istore (lo2 := [(8, .int _), (7, .int _), (12, .int _), (11, .int _), (10, .int _), (0, .ref _), (1, .int _), (3, .int _), (4, .int _), (5, .int _), (6, .int _), (9, .int _)]) dX11_burden_218 (by decide) rfl ?_
              refine wp_iinc (v := x9 + 1) (lo2 := [(9, .int _), (8, .int _), (7, .int _), (12, .int _), (11, .int _), (10, .int _), (0, .ref _), (1, .int _), (3, .int _), (4, .int _), (5, .int _), (6, .int _)]) dX11_burden_220 (q := 11) rfl rfl (by decide) rfl ?_
              refine wp_goto (tgt := 125) dX11_burden_223 (by decide) ?_
              exact Wp.sub [6, 7, 8, 9, 10, 11, 2, 1, 0] rfl h
theorem bX11_burden_248 {G : Gl} {d : Nat} {X : Sh} {M : Mm} {Q : Mm → Int32 → Prop} {x3 : Int32} {x8 : Int32} {x9 : Int32} {x10 : Int32}  (h : ((x10 ≤ x3 → ((0 ≤ x3 → Q M (x9 - x9 / 10 * 10)) ∧ (¬ (0 ≤ x3) → Q M x8))) ∧ (¬ (x10 ≤ x3) → (∀ v3 : Int32, v3 = (x9 / 10) → Wn G m_X11_burden (d + 1) 248 [(3, .int x3), (8, .int x8), (9, .int v3), (10, .int (x10 + (-1)))] [] X M Q)))) : Wn G m_X11_burden (d + 1) 248 [(3, .int x3), (8, .int x8), (9, .int x9), (10, .int x10)] [] X M Q := by
  refine wp_iload 3 dX11_burden_248 rfl ?_
  refine wp_iload_n 0 dX11_burden_250 rfl rfl ?_
  refine wp_icmp_le (tgt := 267) dX11_burden_251 (by decide) (fun c1 => ?_) (fun c1 => ?_)
  · replace h := h.1 c1
    refine wp_iload_n 0 dX11_burden_267 rfl rfl ?_
    refine wp_if_ge (tgt := 276) dX11_burden_268 (by decide) (fun c2 => ?_) (fun c2 => ?_)
    · replace h := h.1 c2
      refine wp_iload 2 dX11_burden_276 rfl ?_
      refine wp_bipush (v := 10) dX11_burden_278 rfl ?_
      refine wp_irem dX11_burden_280 (by decide) ?_
      exact wn_iret dX11_burden_281 rfl h
    · replace h := h.2 c2
      refine wp_iload 1 dX11_burden_271 rfl ?_
      refine wp_goto (tgt := 281) dX11_burden_273 (by decide) ?_
      exact wn_iret dX11_burden_281 rfl h
  · replace h := h.2 c1
    refine wp_iload 2 dX11_burden_254 rfl ?_
    refine wp_bipush (v := 10) dX11_burden_256 rfl ?_
    refine wp_idiv dX11_burden_258 (by decide) ?_
    refine wp_topi (fun v3 ev3 => ?_)
    replace h := h v3 ev3
    refine wp_istore (lo2 := [(9, .int _), (3, .int _), (8, .int _), (10, .int _)]) dX11_burden_259 (by decide) rfl ?_
    refine wp_iinc (v := x10 + (-1)) (lo2 := [(10, .int _), (9, .int _), (3, .int _), (8, .int _)]) dX11_burden_261 (q := 3) rfl rfl (by decide) rfl ?_
    refine wp_goto (tgt := 248) dX11_burden_264 (by decide) ?_
    exact Wp.sub [2, 3, 1, 0] rfl h
theorem cl_ofBurden (G : Gl) (d : Nat) (hd : 2 ≤ d) {X : Sh} {M : Mm} {m nt mix : Nat} {w : Int32} {tb : Nat → Nat} {Q : Mm → Int32 → Prop} (hM : Sh10 X m) (hT : TlR (mI M (m + 1)) nt tb) (hm : mix < 2147483648) (hq : Q M (r_sum (tR (mI M (m + 1)) tb w nt mix) nt 0)) :
    ∀ (n : Nat) (z : Int32), n ≤ nt → r_sum (tR (mI M (m + 1)) tb w nt mix) n z = r_sum (tR (mI M (m + 1)) tb w nt mix) nt 0 → Wn G m_X11_ofBurden (d + 1) 15 [(0, .ref m), (2, .int w), (3, .int (nI (dN mix (nt - n)))), (4, .int z), (5, .int (nI n + (-1)))] [] X M Q
  | 0, z, h, hz => by
    have hz : z = r_sum (tR (mI M (m + 1)) tb w nt mix) nt 0 := hz
    rw [← hz] at hq
    exact bX11_ofBurden_15 hM ⟨fun _ => hq, fun q => absurd (by decide) q⟩
  | n + 1, z, h, hz => by
    obtain ⟨t1, t2, t3⟩ := id hT
    obtain ⟨b1, b2⟩ := t3 n (by omega)
    have hz2 : r_sum (tR (mI M (m + 1)) tb w nt mix) n (z + tR (mI M (m + 1)) tb w nt mix n) = r_sum (tR (mI M (m + 1)) tb w nt mix) nt 0 := hz
    have le := dN_le mix (nt - (n + 1))
    have ed : dgt nt mix n = dN mix (nt - (n + 1)) % 10 := by
      unfold dgt
      rw [show nt - 1 - n = nt - (n + 1) by omega]
    have ed2 : dN mix (nt - n) = dN mix (nt - (n + 1)) / 10 := by
      rw [show nt - n = nt - (n + 1) + 1 by omega]
      rfl
    rw [pk_m1]
    refine bX11_ofBurden_15 hM ⟨fun q => absurd q (nI_pos (by omega)), fun _ => ⟨310 + n, (by first | rfl | (simp only [n_lit, nI_add, pk_mul]; done) | (simp only [n_lit, nI_add, pk_mul]; exact congrArg nI (by omega))), by omega, ?_⟩⟩
    intro v5 e5 v6 e6
    rw [b2] at e5
    subst e5
    rw [n_lit 10, pk_rem (by omega) (by omega) (by omega), ← ed] at e6
    refine ⟨fun hw => ⟨_, cp_X11_brings G d hd X M m (tb n) v6 w hM b1, ?_⟩, fun hw => ⟨22 + 5 * tb n, (by first | rfl | (simp only [n_lit, nI_add, pk_mul]; done) | (simp only [n_lit, nI_add, pk_mul]; exact congrArg nI (by omega))), by omega, ?_⟩⟩
    · rintro M10 r11 ⟨e, e11⟩
      have e := e.symm
      subst e
      intro v13 e13 v14 e14
      rw [n_lit 10, nI_div (by omega) (by omega) (by omega), ← ed2] at e14
      have ev : v13 = z + tR (mI M (m + 1)) tb w nt mix n := by
        rw [e13, e11, e6]
        unfold tR
        rw [if_neg hw]
        rfl
      rw [e14, ev]
      exact cl_ofBurden G d hd hM hT hm hq n _ (by omega) hz2
    · intro v18 e18 v19 e19
      rw [n_lit 10, nI_div (by omega) (by omega) (by omega), ← ed2] at e19
      have ev : v18 = z + tR (mI M (m + 1)) tb w nt mix n := by
        rw [e18, e6]
        unfold tR
        rw [if_pos hw]
        rfl
      rw [e19, ev]
      exact cl_ofBurden G d hd hM hT hm hq n _ (by omega) hz2
theorem cp_X11_ofBurden (G : Gl) (d : Nat) (hd : 3 ≤ d) (X : Sh) (M : Mm) (m nt mix : Nat) (w : Int32) (tb : Nat → Nat) (hM : Sh10 X m) (hT : TlR (mI M (m + 1)) nt tb) (hm : mix < 2147483648) : Cn G m_X11_ofBurden d [.ref m, .int (nI mix), .int w] X M (fun M2 r => M2 = M ∧ r = s_sum (tR (mI M (m + 1)) tb w nt mix) 0 nt) := by
  obtain ⟨d, rfl⟩ : ∃ d1, d = d1 + 1 := ⟨d - 1, by omega⟩
  refine Cn.of (by decide) (Nat.le_of_ble_eq_true rfl) (bX11_ofBurden_0 hM ?_)
  intro v1 e1
  rw [hT.1, Int32.sub_eq_add_neg] at e1
  have e1 : v1 = nI nt + (-1) := e1
  subst e1
  have := cl_ofBurden G d (by omega) (w := w) (Q := fun M2 r => M2 = M ∧ r = s_sum (tR (mI M (m + 1)) tb w nt mix) 0 nt) hM hT hm ⟨rfl, r_sum_eq _ _ _⟩ nt 0 (Nat.le_refl _) rfl
  rw [Nat.sub_self] at this
  exact this
theorem amt_eq {k sh t : Nat} (hk : k ≤ 5) (hs : sh ≤ 99) (ht : t ≤ 9999) {w : Int32} (hw : w = 1 ∨ w = 2 ∨ w = 3) : f_amount (nI k) (nI sh) (nI t) w = g_amt (nI k) (nI sh) (nI t) w := by
  rcases hw with rfl | rfl | rfl
  · exact fg_iron hk hs ht
  · exact fg_acid hk hs ht
  · rfl
theorem basic_eq {l a : Nat} (hl : l ≤ 9999) (ha : a ≤ 9999) : f_basic (nI l) (nI a) = if nI a = 0 then 0 else 100 * nI l / nI a := by
  unfold f_basic
  by_cases z : nI a = 0
  · rw [if_pos z, if_pos z]
  · rw [if_neg z, if_neg z]
    have h0 : 0 < a := by
      rcases Nat.eq_zero_or_pos a with q | q
      · rw [q] at z
        exact absurd rfl z
      · exact q
    have e : (100 : Int64) = lN 100 := rfl
    rw [e, nI_l (by omega), nI_l (by omega), lN_mul, lN_div (by omega) h0 (by omega), lN_i, n_lit 100, pk_mul, nI_div (by omega) h0 (by omega)]
/-- both sides' sums -/
theorem Tld.sums {M : Mm} {a nt mix : Nat} {σ : Nat → Int32} {tb : Nat → Nat} (hT : Tld M a σ nt tb) : s_sum (tR σ tb 0 nt mix) 0 nt = s_sum (tP σ tb nt mix) 0 nt ∧ ∀ w : Int32, w = 1 ∨ w = 2 ∨ w = 3 → s_sum (tR σ tb w nt mix) 0 nt = s_sum (tA σ tb w nt mix) 0 nt ∧ ∃ S, S ≤ 9999 ∧ s_sum (tA σ tb w nt mix) 0 nt = nI S := by
  refine ⟨s_sum_cong (fun k hk => ?_), fun w hw => ?_⟩
  · show 10 * nI (dgt nt mix k) * σ (22 + 5 * tb k) = (σ (22 + 5 * tb k) * 10) * nI (dgt nt mix k)
    rw [Int32.mul_comm (10 * nI (dgt nt mix k)), Int32.mul_assoc]
  · have w0 : ¬ w = 0 := by
      rcases hw with rfl | rfl | rfl <;> decide
    have each : ∀ k, k < nt → tR σ tb w nt mix k = tA σ tb w nt mix k ∧ ∃ A, A ≤ 90 ∧ tA σ tb w nt mix k = nI A := fun k hk => by
      obtain ⟨b1, b2, b3, b4, b5, kd, sh, h1, h2, h3, h4⟩ := hT.2.2 k hk
      have dl : dgt nt mix k ≤ 9 := by
        unfold dgt
        omega
      have e : tA σ tb w nt mix k = g_amt (nI kd) (nI sh) (nI (10 * dgt nt mix k)) w := by
        unfold tA
        rw [h3, h4, n_lit 10, pk_mul]
        exact amt_eq h1 h2 (by omega) hw
      obtain ⟨A, a1, a2⟩ := g_amt_n (k := kd) (sh := sh) (t := 10 * dgt nt mix k) h1 h2 (by omega) w
      refine ⟨?_, A, by omega, by rw [e, a2]⟩
      rw [e]
      unfold tR
      rw [if_neg w0, h3, h4, n_lit 10, pk_mul]
    refine ⟨s_sum_cong (fun k hk => (each k hk).1), ?_⟩
    have acc : ∀ n, n ≤ nt → ∃ S, S ≤ n * 90 ∧ s_sum (tA σ tb w nt mix) 0 n = nI S := by
      intro n
      induction n with
      | zero => exact fun _ => ⟨0, by omega, rfl⟩
      | succ n ih =>
        intro hn
        obtain ⟨S, s1, s2⟩ := ih (by omega)
        obtain ⟨A, a1, a2⟩ := (each n (by omega)).2
        refine ⟨S + A, by omega, ?_⟩
        show s_sum (tA σ tb w nt mix) 0 n + tA σ tb w nt mix n = _
        rw [s2, a2, nI_add]
    obtain ⟨S, s1, s2⟩ := acc nt (Nat.le_refl _)
    have := hT.2.1
    exact ⟨S, by omega, s2⟩
theorem cl_burden_248 (G : Gl) (d : Nat) {X : Sh} {M : Mm} {mix i N : Nat} {x8 : Int32} {Q : Mm → Int32 → Prop} (hm : mix < 2147483648) (hi : i + N < 2147483648) (hq : Q M (nI (dN mix N % 10))) :
    ∀ (n j : Nat), j + n = N → Wn G m_X11_burden (d + 1) 248 [(3, .int (nI i)), (8, .int x8), (9, .int (nI (dN mix j))), (10, .int (nI (i + n)))] [] X M Q
  | 0, j, h => by
    have hj : j = N := h
    subst hj
    have := dN_le mix j
    refine bX11_burden_248 ⟨fun _ => ⟨fun _ => ?_, fun q => absurd (nI_pos' (by omega)) q⟩, fun q => absurd (Int32.le_refl _) q⟩
    rw [n_lit 10, pk_rem (by omega) (by omega) (by omega)]
    exact hq
  | n + 1, j, h => by
    have := dN_le mix j
    refine bX11_burden_248 ⟨fun q => ?_, fun _ => ?_⟩
    · have := (nI_leI (by omega) (by omega)).mp q
      omega
    intro v3 e3
    rw [n_lit 10, nI_div (by omega) (by omega) (by omega)] at e3
    subst e3
    rw [show i + (n + 1) = i + n + 1 by omega, pk_m1]
    exact cl_burden_248 G d hm hi hq n (j + 1) (by omega)
theorem cl_burden_248m (G : Gl) (d : Nat) {X : Sh} {M : Mm} {x8 : Int32} {Q : Mm → Int32 → Prop} (hq : Q M x8) :
    ∀ (n : Nat) (v : Int32), n < 2147483648 → Wn G m_X11_burden (d + 1) 248 [(3, .int (-1)), (8, .int x8), (9, .int v), (10, .int (nI n + (-1)))] [] X M Q
  | 0, v, h => bX11_burden_248 ⟨fun _ => ⟨fun q => absurd q (by decide), fun _ => hq⟩, fun q => absurd (by decide) q⟩
  | n + 1, v, h => by
    rw [pk_m1]
    refine bX11_burden_248 ⟨fun q => absurd q (fun z => nI_pos (n := n) (by omega) (Int32.lt_of_le_of_lt z (by decide))), fun _ => ?_⟩
    intro v3 e3
    exact cl_burden_248m G d hq n v3 (by omega)
theorem cl_burden_125 (G : Gl) (d : Nat) (hd : 3 ≤ d) {X : Sh} {M : Mm} {m a nt N : Nat} {need lo hi x3 : Int32} {tb : Nat → Nat} {Q : Mm → Int32 → Prop} (hM : Sh10 X m) (hT : TlR (mI M (m + 1)) nt tb) (hC : Tld M a (mI M (m + 1)) nt tb) (hN : N ≤ 1000) (hq : ((bst (mI M (m + 1)) tb nt need lo hi N).1 < 0 → Q M (-1000000005)) ∧ (∀ k, k < N → bst (mI M (m + 1)) tb nt need lo hi N = (nI k, s_sum (tP (mI M (m + 1)) tb nt k) 0 nt) → Wn G m_X11_burden (d + 1) 248 [(3, .int x3), (8, .int (s_sum (tP (mI M (m + 1)) tb nt k) 0 nt)), (9, .int (nI k)), (10, .int (nI nt + (-1)))] [] X M Q)) :
    ∀ (n i : Nat), i + n = N → Wn G m_X11_burden (d + 1) 125 [(0, .ref m), (1, .int need), (3, .int x3), (4, .int lo), (5, .int hi), (6, .int (nI N)), (7, .int (bst (mI M (m + 1)) tb nt need lo hi i).1), (8, .int (bst (mI M (m + 1)) tb nt need lo hi i).2), (9, .int (nI i))] [] X M Q
  | 0, i, h => by
    have hi' : i = N := h
    subst hi'
    refine bX11_burden_125 hM ⟨fun _ => ⟨fun h0 => ?_, fun h0 => hq.1 (i_nle.mp h0)⟩, fun q => absurd (Int32.le_refl _) q⟩
    intro v3 e3
    rw [hT.1, Int32.sub_eq_add_neg] at e3
    have e3 : v3 = nI nt + (-1) := e3
    subst e3
    rcases bst_is (mI M (m + 1)) tb nt need lo hi i with q | ⟨k, hk, q⟩
    · rw [q] at h0
      exact absurd h0 (by decide)
    · have := hq.2 k hk q
      rw [q]
      exact this
  | n + 1, i, h => by
    have ih := cl_burden_125 G d hd hM hT hC hN hq n (i + 1) (by omega)
    obtain ⟨sP, sA⟩ := hC.sums (mix := i)
    obtain ⟨a1, S1, _, n1⟩ := sA 1 (Or.inl rfl)
    obtain ⟨a2, S2, l2, n2⟩ := sA 2 (Or.inr (Or.inl rfl))
    obtain ⟨a3, S3, l3, n3⟩ := sA 3 (Or.inr (Or.inr rfl))
    have bas := basic_eq (l := S3) (a := S2) l3 l2
    rw [← n2, ← n3] at bas
    refine bX11_burden_125 hM ⟨fun q => ?_, fun _ => ⟨_, cp_X11_ofBurden G d hd X M m nt i 0 tb hM hT (by omega), ?_⟩⟩
    · have := (nI_leI (by omega) (by omega)).mp q
      omega
    rintro M6 r7 ⟨e, e7⟩
    have e := e.symm
    subst e
    rw [sP] at e7
    subst e7
    rw [nI_1]
    have no : ¬ Suits (mI M (m + 1)) tb nt need lo hi i → Wn G m_X11_burden (d + 1) 125 [(0, .ref m), (1, .int need), (3, .int x3), (4, .int lo), (5, .int hi), (6, .int (nI N)), (7, .int (bst (mI M (m + 1)) tb nt need lo hi i).1), (8, .int (bst (mI M (m + 1)) tb nt need lo hi i).2), (9, .int (nI (i + 1)))] [] X M Q := fun z => by
      rw [bst_no (fun y => z y.2)] at ih
      exact ih
    have yes : (bst (mI M (m + 1)) tb nt need lo hi i).1 < 0 ∨ s_sum (tP (mI M (m + 1)) tb nt i) 0 nt < (bst (mI M (m + 1)) tb nt need lo hi i).2 → Suits (mI M (m + 1)) tb nt need lo hi i → Wn G m_X11_burden (d + 1) 125 [(0, .ref m), (1, .int need), (3, .int x3), (4, .int lo), (5, .int hi), (6, .int (nI N)), (7, .int (nI i)), (8, .int (s_sum (tP (mI M (m + 1)) tb nt i) 0 nt)), (9, .int (nI (i + 1)))] [] X M Q := fun z1 z2 => by
      rw [bst_yes z1 z2] at ih
      exact ih
    have hA : ∀ w : Int32, w = 1 ∨ w = 2 ∨ w = 3 → Cn G m_X11_ofBurden d [.ref m, .int (nI i), .int w] X M (fun M2 r => M2 = M ∧ r = s_sum (tA (mI M (m + 1)) tb w nt i) 0 nt) := fun w hw => by
      have := cp_X11_ofBurden G d hd X M m nt i w tb hM hT (by omega)
      rw [(sA w hw).1] at this
      exact this
    have test : ∀ z1 : (bst (mI M (m + 1)) tb nt need lo hi i).1 < 0 ∨ s_sum (tP (mI M (m + 1)) tb nt i) 0 nt < (bst (mI M (m + 1)) tb nt need lo hi i).2, ∃ q10 : Mm → Int32 → Prop, Cn G m_X11_ofBurden d [.ref m, .int (nI i), .int 2] X M q10 ∧ ∀ M12 r13, q10 M12 r13 → ((¬ (r13 = 0) → (∃ q16 : Mm → Int32 → Prop, Cn G m_X11_ofBurden d [.ref m, .int (nI i), .int 3] X M12 q16 ∧ ∀ M18 r19, q16 M18 r19 → (¬ (r13 = 0) ∧ (∀ v22 : Int32, v22 = ((100 * r19) / r13) → (∃ q23 : Mm → Int32 → Prop, Cn G m_X11_ofBurden d [.ref m, .int (nI i), .int 1] X M18 q23 ∧ ∀ M25 r26, q23 M25 r26 → ((r26 < need → Wn G m_X11_burden (d + 1) 125 [(0, .ref m), (1, .int need), (3, .int x3), (4, .int lo), (5, .int hi), (6, .int (nI N)), (7, .int (bst (mI M (m + 1)) tb nt need lo hi i).1), (8, .int (bst (mI M (m + 1)) tb nt need lo hi i).2), (9, .int (nI (i + 1)))] [] X M25 Q) ∧ (¬ (r26 < need) → ((¬ (lo ≤ v22 ∧ v22 ≤ hi) → Wn G m_X11_burden (d + 1) 125 [(0, .ref m), (1, .int need), (3, .int x3), (4, .int lo), (5, .int hi), (6, .int (nI N)), (7, .int (bst (mI M (m + 1)) tb nt need lo hi i).1), (8, .int (bst (mI M (m + 1)) tb nt need lo hi i).2), (9, .int (nI (i + 1)))] [] X M25 Q) ∧ (lo ≤ v22 ∧ v22 ≤ hi → Wn G m_X11_burden (d + 1) 125 [(0, .ref m), (1, .int need), (3, .int x3), (4, .int lo), (5, .int hi), (6, .int (nI N)), (7, .int (nI i)), (8, .int (s_sum (tP (mI M (m + 1)) tb nt i) 0 nt)), (9, .int (nI (i + 1)))] [] X M25 Q))))))))) ∧ (r13 = 0 → (∃ q30 : Mm → Int32 → Prop, Cn G m_X11_ofBurden d [.ref m, .int (nI i), .int 1] X M12 q30 ∧ ∀ M32 r33, q30 M32 r33 → ((r33 < need → Wn G m_X11_burden (d + 1) 125 [(0, .ref m), (1, .int need), (3, .int x3), (4, .int lo), (5, .int hi), (6, .int (nI N)), (7, .int (bst (mI M (m + 1)) tb nt need lo hi i).1), (8, .int (bst (mI M (m + 1)) tb nt need lo hi i).2), (9, .int (nI (i + 1)))] [] X M32 Q) ∧ (¬ (r33 < need) → ((¬ (lo ≤ (0 : Int32) ∧ (0 : Int32) ≤ hi) → Wn G m_X11_burden (d + 1) 125 [(0, .ref m), (1, .int need), (3, .int x3), (4, .int lo), (5, .int hi), (6, .int (nI N)), (7, .int (bst (mI M (m + 1)) tb nt need lo hi i).1), (8, .int (bst (mI M (m + 1)) tb nt need lo hi i).2), (9, .int (nI (i + 1)))] [] X M32 Q) ∧ (lo ≤ (0 : Int32) ∧ (0 : Int32) ≤ hi → Wn G m_X11_burden (d + 1) 125 [(0, .ref m), (1, .int need), (3, .int x3), (4, .int lo), (5, .int hi), (6, .int (nI N)), (7, .int (nI i)), (8, .int (s_sum (tP (mI M (m + 1)) tb nt i) 0 nt)), (9, .int (nI (i + 1)))] [] X M32 Q))))))) := fun z1 => by
      refine ⟨_, hA 2 (Or.inr (Or.inl rfl)), ?_⟩
      rintro M12 r13 ⟨e, rfl⟩
      have e := e.symm
      subst e
      refine ⟨fun z => ⟨_, hA 3 (Or.inr (Or.inr rfl)), ?_⟩, fun z => ⟨_, hA 1 (Or.inl rfl), ?_⟩⟩
      · rintro M18 r19 ⟨e, rfl⟩
        have e := e.symm
        subst e
        refine ⟨z, ?_⟩
        intro v22 e22
        rw [if_neg z] at bas
        rw [← bas] at e22
        refine ⟨_, hA 1 (Or.inl rfl), ?_⟩
        rintro M25 r26 ⟨e, rfl⟩
        have e := e.symm
        subst e
        rw [e22]
        exact ⟨fun y => no (fun u => i_nle.mpr y u.1), fun y => ⟨fun y2 => no (fun u => y2 u.2), fun y2 => yes z1 ⟨i_nlt.mp y, y2⟩⟩⟩
      · rintro M32 r33 ⟨e, rfl⟩
        have e := e.symm
        subst e
        rw [if_pos z] at bas
        refine ⟨fun y => no (fun u => i_nle.mpr y u.1), fun y => ⟨fun y2 => no (fun u => y2 (by rw [← bas]; exact u.2)), fun y2 => yes z1 ⟨i_nlt.mp y, by rw [bas]; exact y2⟩⟩⟩
    refine ⟨fun z => test (Or.inl z), fun z => ⟨fun z2 => ?_, fun z2 => test (Or.inr (i_nle.mp z2))⟩⟩
    rw [bst_no (fun y => y.1.elim z (fun y => i_nle.mpr y z2))] at ih
    exact ih
theorem case_burden (G : Gl) (d : Nat) (hd : 8 ≤ d) (X : Sh) (b m : Nat) (hS : Sh9 X b) (hM : Sh10 X m) (x1 x2 x3 : Int32) : Case G d X b m m_X10_burden m_X11_burden [.int x1, .int x2, .int x3] := by
  obtain ⟨d, rfl⟩ : ∃ d1, d = d1 + 1 := ⟨d - 1, by omega⟩
  refine Case.pure (fun M nb nl nx nt nd la hh hr => ?_)
  obtain ⟨hW, hB, hF, hT, hD, hR⟩ := id hh
  obtain ⟨w0, w1, w2, w3, w4, w5, w6, w7, w8, w9, wb, wf, wl, wt, wd, _⟩ := id hW
  obtain ⟨tb, htb⟩ : ∃ tb : Nat → Nat, ∀ k, k < nt → tb k < nb ∧ mI M (m + 1) (310 + k) = nI (tb k) := ⟨fun k => (mI M (m + 1) (310 + k)).toNatClampNeg, fun k hk => by
    obtain ⟨y, y1, y2⟩ := wt k hk
    show (mI M (m + 1) (310 + k)).toNatClampNeg < nb ∧ mI M (m + 1) (310 + k) = nI (mI M (m + 1) (310 + k)).toNatClampNeg
    rw [y2, nI_clamp (by omega)]
    exact ⟨y1, rfl⟩⟩
  have hTR : TlR (mI M (m + 1)) nt tb := ⟨w6, w7, fun k hk => ⟨by have := (htb k hk).1; omega, (htb k hk).2⟩⟩
  have hTC : Tld M (b + 1 + 1) (mI M (m + 1)) nt tb := ⟨hB.2.1.trans w6, w7, fun k hk => by
    obtain ⟨y1, y2⟩ := htb k hk
    obtain ⟨b0, b1, b2, _⟩ := hB.2.2.1 (tb k) y1
    obtain ⟨kk, sh, v, s, hkk, hsh, hv1, hv, hs9, e0, e1, e3, e4⟩ := wb (tb k) y1
    exact ⟨by omega, (hB.2.2.2 k (by omega)).trans y2, b0, b1, b2, kk, sh, hkk, hsh, e0, e1⟩⟩
  have hS0 := sh2_S_bins (sh9_S_house hS)
  have c7 : mI M (b + 1 + 1) 7 = nI nt := hTC.1
  have bad : ∀ h : ¬ ((0 ≤ x1 ∧ x1 ≤ 9999) ∧ (0 ≤ x2 ∧ x2 ≤ 999999) ∧ x2 / 1000 ≤ x2 - x2 / 1000 * 1000 ∧ ((-1) ≤ x3 ∧ x3 ≤ nI nt - 1)), ∃ v, Cn G m_X10_burden (d + 1) [.ref b, .int x1, .int x2, .int x3] X M (fun M1 r1 => M1 = M ∧ r1 = v) ∧ Cn G m_X11_burden (d + 1) [.ref m, .int x1, .int x2, .int x3] X M (fun M2 r2 => M2 = M ∧ r2 = v) := fun h => by
    refine ⟨-1000000001, Cn.of (by decide) (Nat.le_of_ble_eq_true rfl) (bX10_burden_0 hS ?_), Cn.of (by decide) (Nat.le_of_ble_eq_true rfl) (bX11_burden_0 hM ?_)⟩
    · rw [c7]
      exact ⟨fun _ => ⟨rfl, rfl⟩, fun h1 => ⟨fun _ => ⟨rfl, rfl⟩, fun h2 => ⟨fun h3 => ⟨fun h4 => absurd ⟨h1, h2, h3, h4⟩ h, fun _ => ⟨rfl, rfl⟩⟩, fun _ => ⟨rfl, rfl⟩⟩⟩⟩
    · intro v1 e1 v2 e2
      subst e1
      subst e2
      rw [w6]
      exact ⟨fun _ => ⟨rfl, rfl⟩, fun h1 => ⟨fun _ => ⟨rfl, rfl⟩, fun h2 => ⟨fun _ => ⟨rfl, rfl⟩, fun h3 => ⟨fun h4 => absurd ⟨h1, h2, i_nlt.mp h3, h4⟩ h, fun _ => ⟨rfl, rfl⟩⟩⟩⟩⟩
  by_cases h : (0 ≤ x1 ∧ x1 ≤ 9999) ∧ (0 ≤ x2 ∧ x2 ≤ 999999) ∧ x2 / 1000 ≤ x2 - x2 / 1000 * 1000 ∧ ((-1) ≤ x3 ∧ x3 ≤ nI nt - 1)
  · obtain ⟨h1, h2, h3, h4⟩ := h
    have le : 10 ^ nt ≤ 1000 := Nat.pow_le_pow_right (n := 10) (by omega) w7
    have refin : ∀ Q : Mm → Int32 → Prop, Wn G m_X11_burden (d + 1) 125 [(0, .ref m), (1, .int x1), (3, .int x3), (4, .int (x2 / 1000)), (5, .int (x2 - x2 / 1000 * 1000)), (6, .int (nI (10 ^ nt))), (7, .int (-1)), (8, .int 0), (9, .int 0)] [] X M Q → Cn G m_X11_burden (d + 1) [.ref m, .int x1, .int x2, .int x3] X M Q := fun Q hq => by
      refine Cn.of (by decide) (Nat.le_of_ble_eq_true rfl) (bX11_burden_0 hM ?_)
      intro v1 e1 v2 e2
      subst e1
      subst e2
      refine ⟨fun q => absurd h1 q, fun _ => ⟨fun q => absurd h2 q, fun _ => ⟨fun q => absurd h3 (i_nle.mpr q), fun _ => ⟨fun _ => ?_, fun q => absurd (by rw [w6]; exact h4) q⟩⟩⟩⟩
      rw [w6]
      match nt, w7 with
      | 0, _ => exact ⟨fun q => absurd rfl q, fun _ => hq⟩
      | 1, _ => exact ⟨fun _ => ⟨fun q => absurd rfl q, fun _ => hq⟩, fun q => absurd q (by decide)⟩
      | 2, _ => exact ⟨fun _ => ⟨fun _ v11 e11 => by rw [e11]; exact hq, fun q => absurd q (by decide)⟩, fun q => absurd q (by decide)⟩
      | 3, _ => exact ⟨fun _ => ⟨fun _ v11 e11 => by rw [e11]; exact hq, fun q => absurd q (by decide)⟩, fun q => absurd q (by decide)⟩
    have cmix := cp_X0_cheapestMix G d (by omega) X M (b + 1 + 1) nt x1 (x2 / 1000) (x2 - x2 / 1000 * 1000) (mI M (m + 1)) tb hS0 hTC
    rcases bst_is (mI M (m + 1)) tb nt x1 (x2 / 1000) (x2 - x2 / 1000 * 1000) (10 ^ nt) with q | ⟨k, hk, q⟩
    · refine ⟨-1000000005, Cn.of (by decide) (Nat.le_of_ble_eq_true rfl) (bX10_burden_0 hS ⟨fun z => absurd h1 z, fun _ => ⟨fun z => absurd h2 z, fun _ => ⟨fun _ => ⟨fun _ => ⟨_, cmix, ?_⟩, fun z => absurd (by rw [c7]; exact h4) z⟩, fun z => absurd h3 z⟩⟩⟩), refin _ (cl_burden_125 G d (by omega) (a := b + 1 + 1) hM hTR hTC le ⟨fun _ => ⟨rfl, rfl⟩, fun k hk z => ?_⟩ (10 ^ nt) 0 (by omega))⟩
      · rintro M7 r8 ⟨e, e8⟩
        have e := e.symm
        subst e
        rw [q] at e8
        subst e8
        exact ⟨fun z => absurd z (by decide), fun _ => ⟨rfl, rfl⟩⟩
      · rw [z] at q
        exact absurd q (fun y => nI_pos (n := k) (by omega) (by
          have y : nI k = -1 := y
          rw [y]
          decide))
    · have kpos : 0 ≤ nI k := nI_pos' (by omega)
      by_cases h0 : 0 ≤ x3
      · obtain ⟨w, hw, rfl⟩ := ix_pred (nb := nt) (by omega) h0 h4.2
        refine ⟨nI (dgt nt k w), Cn.of (by decide) (Nat.le_of_ble_eq_true rfl) (bX10_burden_0 hS ⟨fun z => absurd h1 z, fun _ => ⟨fun z => absurd h2 z, fun _ => ⟨fun _ => ⟨fun _ => ⟨_, cmix, ?_⟩, fun z => absurd (by rw [c7]; exact h4) z⟩, fun z => absurd h3 z⟩⟩⟩), refin _ (cl_burden_125 G d (by omega) (a := b + 1 + 1) hM hTR hTC le ⟨fun z => ?_, fun k2 hk2 z => ?_⟩ (10 ^ nt) 0 (by omega))⟩
        · rintro M7 r8 ⟨e, e8⟩
          have e := e.symm
          subst e
          rw [q] at e8
          subst e8
          refine ⟨fun _ => ⟨fun _ => ⟨_, cp_X0_tensIn G d X M (b + 1 + 1) nt k w hS0 c7 w7 hw (by omega), fun M14 r15 y => y⟩, fun z => absurd h0 z⟩, fun z => absurd kpos z⟩
        · rw [q] at z
          exact absurd z (nI_pos (n := k) (by omega))
        · rw [q] at z
          have e2 : nI k = nI k2 := congrArg Prod.fst z
          have e2 := (nI_inj (by omega) (by omega)).mp e2
          subst e2
          rw [show nt = nt - 1 + 1 by omega, pk_m1, show nt - 1 = w + (nt - 1 - w) by omega]
          refine cl_burden_248 G d (N := nt - 1 - w) (by omega) (by omega) ⟨rfl, ?_⟩ (nt - 1 - w) 0 (by omega)
          unfold dgt
          rw [show w + (nt - 1 - w) + 1 - 1 - w = nt - 1 - w by omega]
      · have e3 : x3 = -1 := by
          have l1 := h4.1
          have l2 := i_nle.mp h0
          have t1 := Int32.le_iff_toInt_le.mp l1
          have t2 := Int32.lt_iff_toInt_lt.mp l2
          have c1 : (-1 : Int32).toInt = -1 := rfl
          have c2 : (0 : Int32).toInt = 0 := rfl
          apply Int32.toInt_inj.mp
          rw [c1]
          rw [c1] at t1
          rw [c2] at t2
          omega
        subst e3
        refine ⟨s_sum (tP (mI M (m + 1)) tb nt k) 0 nt, Cn.of (by decide) (Nat.le_of_ble_eq_true rfl) (bX10_burden_0 hS ⟨fun z => absurd h1 z, fun _ => ⟨fun z => absurd h2 z, fun _ => ⟨fun _ => ⟨fun _ => ⟨_, cmix, ?_⟩, fun z => absurd (by rw [c7]; exact h4) z⟩, fun z => absurd h3 z⟩⟩⟩), refin _ (cl_burden_125 G d (by omega) (a := b + 1 + 1) hM hTR hTC le ⟨fun z => ?_, fun k2 hk2 z => ?_⟩ (10 ^ nt) 0 (by omega))⟩
        · rintro M7 r8 ⟨e, e8⟩
          have e := e.symm
          subst e
          rw [q] at e8
          subst e8
          refine ⟨fun _ => ⟨fun z => absurd z h0, fun _ => ⟨_, cp_X0_priceIn G d (by omega) X M (b + 1 + 1) nt k (mI M (m + 1)) tb hS0 hTC (by omega), fun M14 r15 y => y⟩⟩, fun z => absurd kpos z⟩
        · rw [q] at z
          exact absurd z (nI_pos (n := k) (by omega))
        · rw [q] at z
          have e2 : nI k = nI k2 := congrArg Prod.fst z
          have e2 := (nI_inj (by omega) (by omega)).mp e2
          subst e2
          exact cl_burden_248m G d ⟨rfl, rfl⟩ nt _ (by omega)
  · exact bad h
