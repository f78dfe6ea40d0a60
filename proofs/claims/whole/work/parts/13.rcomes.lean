/-! a charge comes; a layer's stuff goes; an hour -/
def dgL (x : Int32) : Nat → Int32
  | 0 => x
  | n + 1 => dgL x n / 10
def dgW (x : Int32) (r : Nat) : Int32 := dgL x (4 - r) - dgL x (4 - r) / 10 * 10
/-- the flat row with a charge of t tons out of bin b on top of nl layers, not slid yet -/
def s_lay (σ : Nat → Int32) (nl b : Nat) (t : Int32) : Nat → Int32 := fun k =>
  if k = 60 + 10 * nl then nI b else if k = 61 + 10 * nl then σ 5 else if k = 62 + 10 * nl then t else if k = 63 + 10 * nl then f_bulk (σ (20 + 5 * b)) t else if k = 64 + 10 * nl then 0
  else if 65 + 10 * nl ≤ k ∧ k < 70 + 10 * nl then s_parts (f_bulk (σ (20 + 5 * b)) t) (fun r => (dgW (σ (24 + 5 * b)) r).toInt64) (k - (65 + 10 * nl))
  else if k = 23 + 5 * b then σ k - t else if k = 1 then σ 1 + 1 else σ k
def s_comes (σ : Nat → Int32) (nl b : Nat) (t : Int32) : Nat → Int32 := s_slide (s_lay σ nl b t) (nl + 1) nl
theorem s_sumL_cong {f g : Nat → Int64} : ∀ {n : Nat}, (∀ r, r < n → f r = g r) → s_sumL f n = s_sumL g n
  | 0, _ => rfl
  | n + 1, h => by
    show s_sumL f n + f n = s_sumL g n + g n
    rw [s_sumL_cong (n := n) (fun r hr => h r (by omega)), h n (by omega)]
theorem p_left_cong {x : Int32} {w w2 : Nat → Int64} {A : Int64} : ∀ {n : Nat}, (∀ r, r < n → w r = w2 r) → p_left x w A n = p_left x w2 A n
  | 0, _ => rfl
  | n + 1, h => by
    show p_left x w A n - p_base x w A n = p_left x w2 A n - p_base x w2 A n
    rw [p_left_cong (n := n) (fun r hr => h r (by omega))]
    unfold p_base
    rw [h n (by omega)]
theorem s_parts_cong {x : Int32} {w w2 : Nat → Int64} (h : ∀ r, r < 5 → w r = w2 r) : ∀ r, r < 5 → s_parts x w r = s_parts x w2 r := by
  intro r hr
  unfold s_parts
  rw [s_sumL_cong h, p_left_cong h]
  split
  · rfl
  · refine p_give_cong _ (fun k hk => ?_) (fun k hk => ?_) r hr
    · unfold p_base
      rw [h k hk]
    · unfold p_rest
      rw [h k hk]
def g_amt (k sh t w : Int32) : Int32 := if w = 1 then g_iron k sh t else if w = 2 then g_acid k sh t else f_lime k sh t
def s_inc (all gone whole x : Int32) : Int32 := (all.toInt64 * (gone + x).toInt64 / whole.toInt64 - all.toInt64 * gone.toInt64 / whole.toInt64).toInt32
/-- what a layer has of 1 iron, 2 acid, 3 lime, as it was charged -/
def s_amt (σ : Nat → Int32) (l : Nat) (w : Int32) : Int32 := g_amt (σ (20 + 5 * (σ (60 + 10 * l)).toNatClampNeg)) (σ (21 + 5 * (σ (60 + 10 * l)).toNatClampNeg)) (σ (62 + 10 * l)) w
def s_goes (σ : Nat → Int32) (l r : Nat) (x : Int32) : Nat → Int32 := fun k =>
  if k = 9 then σ 9 + s_inc (s_amt σ l 1) (σ (64 + 10 * l)) (σ (63 + 10 * l)) x else if k = 10 then σ 10 + s_inc (s_amt σ l 2) (σ (64 + 10 * l)) (σ (63 + 10 * l)) x
  else if k = 11 then σ 11 + s_inc (s_amt σ l 3) (σ (64 + 10 * l)) (σ (63 + 10 * l)) x else if k = 64 + 10 * l then σ k + x else if k = 65 + 10 * l + r then σ k - x else σ k
def s_takes (σ : Nat → Int32) (i r : Nat) (e : Int32) : Int32 := if σ (65 + 10 * i + r) ≤ e then σ (65 + 10 * i + r) else e
/-- n layers from layer i on are eaten in ring r -/
def s_eat (r : Nat) : Nat → Nat → Int32 → (Nat → Int32) → Nat → Int32
  | 0, _, _, σ => σ
  | n + 1, i, e, σ => if e ≤ 0 then σ else s_eat r n (i + 1) (e - s_takes σ i r e) (s_goes σ i r (s_takes σ i r e))
def s_rings (nl : Nat) (p : Nat → Int32) : Nat → Nat → (Nat → Int32) → Nat → Int32
  | 0, _, σ => σ
  | n + 1, r, σ => s_rings nl p n (r + 1) (s_eat r nl 0 (p r / 4 + 1) σ)
def s_cpl (σ : Nat → Int32) (l to : Nat) : Nat → Int32 := fun k => if 60 + 10 * to ≤ k ∧ k < 70 + 10 * to then σ (60 + 10 * l + (k - (60 + 10 * to))) else σ k
/-- the layers that are gone are left out: how many stay, where the followed one is, the row -/
def s_drop (fol : Int32) : Nat → Nat → Nat → Int32 → (Nat → Int32) → Nat × Int32 × (Nat → Int32)
  | 0, _, to, f, σ => (to, f, σ)
  | n + 1, l, to, f, σ => if s_bulkOf σ l ≤ 0 then s_drop fol n (l + 1) to f σ else s_drop fol n (l + 1) (to + 1) (if nI l = fol then nI to else f) (s_cpl σ l to)
def s_wts (σ : Nat → Int32) (nl : Nat) (r : Nat) : Int64 := (areaV r * 100000 / s_res σ nl r).toInt64
/-- an hour goes by, the gas's parts being p: the row, and where the followed layer is -/
def s_pass (σ : Nat → Int32) (nl : Nat) (p : Nat → Int32) (fol : Int32) : (Nat → Int32) × Int32 :=
  let q := s_drop fol nl 0 0 (-1) (s_rings nl p 5 0 σ)
  (upd (upd q.2.2 1 (nI q.1)) 5 (q.2.2 5 + 1), q.2.1)
theorem bX11_comes_0 {G : Gl} {d : Nat} {X : Sh} {M : Mm} {Q : Mm → Prop} {a : Nat} {x1 : Int32} {x2 : Int32} (hS : Sh10 X a) (h : (∀ v1 : Int32, v1 = (20 + 5 * x1) → (∀ v2 : Int32, v2 = (mI M (a + 1) 1) → (∀ v3 : Int32, v3 = (60 + 10 * v2) → (∃ j4 : Nat, v1 = nI j4 ∧ j4 < 2950 ∧ (∀ v7 : Int32, v7 = (f_bulk (mI M (a + 1) j4) x2) → (∃ j8 : Nat, (v1 + 4) = nI j8 ∧ j8 < 2950 ∧ (∀ v11 : Int32, v11 = (mI M (a + 1) j8) → Wv G m_X11_comes (d + 1) 47 [(0, .ref a), (1, .int x1), (2, .int x2), (3, .int v1), (4, .int v2), (5, .int v3), (6, .int v7), (7, .int v11), (8, .int 4)] [] X M Q)))))))) : Wv G m_X11_comes (d + 1) 0 [(0, .ref a), (1, .int x1), (2, .int x2)] [] X M Q := by
  refine wp_aload_n 0 dX11_comes_0 rfl rfl ?_
  refine wp_iload_n 1 dX11_comes_1 rfl rfl ?_
  refine wp_cvip dX11_comes_2 ck_RX11_86 (sh10_K hS) (as := [.int x1]) rfl rfl (Nat.le_of_ble_eq_true rfl) (cp_X11_binAt G d X M a x1 hS) ?_
  refine wp_topi (fun v1 ev1 => ?_)
  replace h := h v1 ev1
  refine wp_istore_n (lo2 := [(3, .int _), (0, .ref _), (1, .int _), (2, .int _)]) dX11_comes_5 rfl (by decide) rfl ?_
  refine wp_aload_n 1 dX11_comes_6 rfl rfl ?_
  refine wp_getR dX11_comes_7 fl_RX11_7 rfl (sh10_K hS) (sh10_F_s hS) ?_
  refine wp_iconst (v := 1) dX11_comes_10 rfl ?_
  refine wp_iald (n := 2950) dX11_comes_11 (sh10_K_s hS) (sh10_N_s hS) (by decide) rfl (by decide) ?_
  refine wp_topi (fun v2 ev2 => ?_)
  replace h := h v2 ev2
  refine wp_istore (lo2 := [(4, .int _), (3, .int _), (0, .ref _), (1, .int _), (2, .int _)]) dX11_comes_12 (by decide) rfl ?_
  refine wp_aload_n 2 dX11_comes_14 rfl rfl ?_
  refine wp_iload 0 dX11_comes_15 rfl ?_
  refine wp_cvip dX11_comes_17 ck_RX11_134 (sh10_K hS) (as := [.int v2]) rfl rfl (Nat.le_of_ble_eq_true rfl) (cp_X11_layerAt G d X M a v2 hS) ?_
  refine wp_topi (fun v3 ev3 => ?_)
  replace h := h v3 ev3
  refine wp_istore (lo2 := [(5, .int _), (4, .int _), (3, .int _), (0, .ref _), (1, .int _), (2, .int _)]) dX11_comes_20 (by decide) rfl ?_
  refine wp_aload_n 3 dX11_comes_22 rfl rfl ?_
  refine wp_getR dX11_comes_23 fl_RX11_7 rfl (sh10_K hS) (sh10_F_s hS) ?_
  refine wp_iload_n 2 dX11_comes_26 rfl rfl ?_
  obtain ⟨j4, o5, o6, h⟩ := h
  refine wp_iald (n := 2950) dX11_comes_27 (sh10_K_s hS) (sh10_N_s hS) (by decide) o5 o6 ?_
  refine wp_iload_n 5 dX11_comes_28 rfl rfl ?_
  refine wp_csip dX11_comes_29 ck_RX11_113 rfl (as := [.int ((mI M (a + 1) j4)), .int x2]) rfl rfl (Nat.le_of_ble_eq_true rfl) (cp_X11_bulkOf G d X M (mI M (a + 1) j4) x2) ?_
  refine wp_topi (fun v7 ev7 => ?_)
  replace h := h v7 ev7
  refine wp_istore (lo2 := [(6, .int _), (5, .int _), (4, .int _), (3, .int _), (0, .ref _), (1, .int _), (2, .int _)]) dX11_comes_32 (by decide) rfl ?_
  refine wp_aload_n 4 dX11_comes_34 rfl rfl ?_
  refine wp_getR dX11_comes_35 fl_RX11_7 rfl (sh10_K hS) (sh10_F_s hS) ?_
  refine wp_iload_n 3 dX11_comes_38 rfl rfl ?_
  refine wp_iconst (v := 4) dX11_comes_39 rfl ?_
  refine wp_iadd dX11_comes_40 ?_
  obtain ⟨j8, o9, o10, h⟩ := h
  refine wp_iald (n := 2950) dX11_comes_41 (sh10_K_s hS) (sh10_N_s hS) (by decide) o9 o10 ?_
  refine wp_topi (fun v11 ev11 => ?_)
  replace h := h v11 ev11
  refine wp_istore (lo2 := [(7, .int _), (6, .int _), (5, .int _), (4, .int _), (3, .int _), (0, .ref _), (1, .int _), (2, .int _)]) dX11_comes_42 (by decide) rfl ?_
  refine wp_iconst (v := 4) dX11_comes_44 rfl ?_
  refine wp_istore (lo2 := [(8, .int _), (7, .int _), (6, .int _), (5, .int _), (4, .int _), (3, .int _), (0, .ref _), (1, .int _), (2, .int _)]) dX11_comes_45 (by decide) rfl ?_
  exact Wp.sub [6, 7, 8, 5, 4, 3, 2, 1, 0] rfl h
theorem bX11_comes_47 {G : Gl} {d : Nat} {X : Sh} {M : Mm} {Q : Mm → Prop} {a : Nat} {x1 : Int32} {x2 : Int32} {x3 : Int32} {x4 : Int32} {x5 : Int32} {x6 : Int32} {x7 : Int32} {x8 : Int32} (hS : Sh10 X a) (h : ((x8 < 0 → (∃ q2 : Mm → Prop, Cv G m_X11_part d [.ref a, .int x6] X M q2 ∧ ∀ M4, q2 M4 → (∃ j6 : Nat, (x5 + 0) = nI j6 ∧ j6 < 2950 ∧ (∀ M9 : Mm, M9 = sI M4 (a + 1) j6 x1 → (∃ j10 : Nat, (x5 + 1) = nI j10 ∧ j10 < 2950 ∧ (∀ M13 : Mm, M13 = sI M9 (a + 1) j10 (mI M9 (a + 1) 5) → (∃ j14 : Nat, (x5 + 2) = nI j14 ∧ j14 < 2950 ∧ (∀ M17 : Mm, M17 = sI M13 (a + 1) j14 x2 → (∃ j18 : Nat, (x5 + 3) = nI j18 ∧ j18 < 2950 ∧ (∀ M21 : Mm, M21 = sI M17 (a + 1) j18 x6 → (∃ j22 : Nat, (x5 + 4) = nI j22 ∧ j22 < 2950 ∧ (∀ M25 : Mm, M25 = sI M21 (a + 1) j22 0 → Wv G m_X11_comes (d + 1) 143 [(0, .ref a), (2, .int x2), (3, .int x3), (4, .int x4), (5, .int x5), (8, .int 0)] [] X M25 Q)))))))))))) ∧ (¬ (x8 < 0) → (∃ j26 : Nat, x8 = nI j26 ∧ j26 < 5 ∧ (∀ M29 : Mm, M29 = sJ M (a + 12) j26 ((x7 - x7 / 10 * 10).toInt64) → (∀ v30 : Int32, v30 = (x7 / 10) → Wv G m_X11_comes (d + 1) 47 [(0, .ref a), (1, .int x1), (2, .int x2), (3, .int x3), (4, .int x4), (5, .int x5), (6, .int x6), (7, .int v30), (8, .int (x8 + (-1)))] [] X M29 Q)))))) : Wv G m_X11_comes (d + 1) 47 [(0, .ref a), (1, .int x1), (2, .int x2), (3, .int x3), (4, .int x4), (5, .int x5), (6, .int x6), (7, .int x7), (8, .int x8)] [] X M Q := by
  refine wp_iload 8 dX11_comes_47 rfl ?_
  refine wp_if_lt (tgt := 78) dX11_comes_49 (by decide) (fun c1 => ?_) (fun c1 => ?_)
  · replace h := h.1 c1
    refine wp_aload_n 0 dX11_comes_78 rfl rfl ?_
    refine wp_iload 6 dX11_comes_79 rfl ?_
    obtain ⟨q2, o3, h⟩ := h
    refine wp_cvv dX11_comes_81 ck_RX11_146 (sh10_K hS) (as := [.int x6]) rfl rfl (Nat.le_of_ble_eq_true rfl) o3 (fun M4 o5 => ?_)
    replace h := h M4 o5
    refine wp_aload_n 0 dX11_comes_84 rfl rfl ?_
    refine wp_getR dX11_comes_85 fl_RX11_7 rfl (sh10_K hS) (sh10_F_s hS) ?_
    refine wp_iload 5 dX11_comes_88 rfl ?_
    refine wp_iconst (v := 0) dX11_comes_90 rfl ?_
    refine wp_iadd dX11_comes_91 ?_
    refine wp_iload_n 1 dX11_comes_92 rfl rfl ?_
    obtain ⟨j6, o7, o8, h⟩ := h
    refine wp_iast (n := 2950) dX11_comes_93 (sh10_K_s hS) (sh10_N_s hS) (by decide) o7 o8 ?_
    refine wp_nm (fun M9 eM9 => ?_)
    replace h := h M9 eM9
    refine wp_aload_n 0 dX11_comes_94 rfl rfl ?_
    refine wp_getR dX11_comes_95 fl_RX11_7 rfl (sh10_K hS) (sh10_F_s hS) ?_
    refine wp_iload 5 dX11_comes_98 rfl ?_
    refine wp_iconst (v := 1) dX11_comes_100 rfl ?_
    refine wp_iadd dX11_comes_101 ?_
    refine wp_aload_n 0 dX11_comes_102 rfl rfl ?_
    refine wp_getR dX11_comes_103 fl_RX11_7 rfl (sh10_K hS) (sh10_F_s hS) ?_
    refine wp_iconst (v := 5) dX11_comes_106 rfl ?_
    refine wp_iald (n := 2950) dX11_comes_107 (sh10_K_s hS) (sh10_N_s hS) (by decide) rfl (by decide) ?_
    obtain ⟨j10, o11, o12, h⟩ := h
    refine wp_iast (n := 2950) dX11_comes_108 (sh10_K_s hS) (sh10_N_s hS) (by decide) o11 o12 ?_
    refine wp_nm (fun M13 eM13 => ?_)
    replace h := h M13 eM13
    refine wp_aload_n 0 dX11_comes_109 rfl rfl ?_
    refine wp_getR dX11_comes_110 fl_RX11_7 rfl (sh10_K hS) (sh10_F_s hS) ?_
    refine wp_iload 5 dX11_comes_113 rfl ?_
    refine wp_iconst (v := 2) dX11_comes_115 rfl ?_
    refine wp_iadd dX11_comes_116 ?_
    refine wp_iload_n 2 dX11_comes_117 rfl rfl ?_
    obtain ⟨j14, o15, o16, h⟩ := h
    refine wp_iast (n := 2950) dX11_comes_118 (sh10_K_s hS) (sh10_N_s hS) (by decide) o15 o16 ?_
    refine wp_nm (fun M17 eM17 => ?_)
    replace h := h M17 eM17
    refine wp_aload_n 0 dX11_comes_119 rfl rfl ?_
    refine wp_getR dX11_comes_120 fl_RX11_7 rfl (sh10_K hS) (sh10_F_s hS) ?_
    refine wp_iload 5 dX11_comes_123 rfl ?_
    refine wp_iconst (v := 3) dX11_comes_125 rfl ?_
    refine wp_iadd dX11_comes_126 ?_
    refine wp_iload 6 dX11_comes_127 rfl ?_
    obtain ⟨j18, o19, o20, h⟩ := h
    refine wp_iast (n := 2950) dX11_comes_129 (sh10_K_s hS) (sh10_N_s hS) (by decide) o19 o20 ?_
    refine wp_nm (fun M21 eM21 => ?_)
    replace h := h M21 eM21
    refine wp_aload_n 0 dX11_comes_130 rfl rfl ?_
    refine wp_getR dX11_comes_131 fl_RX11_7 rfl (sh10_K hS) (sh10_F_s hS) ?_
    refine wp_iload 5 dX11_comes_134 rfl ?_
    refine wp_iconst (v := 4) dX11_comes_136 rfl ?_
    refine wp_iadd dX11_comes_137 ?_
    refine wp_iconst (v := 0) dX11_comes_138 rfl ?_
    obtain ⟨j22, o23, o24, h⟩ := h
    refine wp_iast (n := 2950) dX11_comes_139 (sh10_K_s hS) (sh10_N_s hS) (by decide) o23 o24 ?_
    refine wp_nm (fun M25 eM25 => ?_)
    replace h := h M25 eM25
    refine wp_iconst (v := 0) dX11_comes_140 rfl ?_
    refine wp_istore (lo2 := [(8, .int _), (0, .ref _), (1, .int _), (2, .int _), (3, .int _), (4, .int _), (5, .int _), (6, .int _), (7, .int _)]) dX11_comes_141 (by decide) rfl ?_
    exact Wp.sub [1, 3, 4, 5, 6, 0] rfl h
  · replace h := h.2 c1
    refine wp_aload_n 0 dX11_comes_52 rfl rfl ?_
    refine wp_getR dX11_comes_53 fl_RX11_43 rfl (sh10_K hS) (sh10_F_weights hS) ?_
    refine wp_iload 8 dX11_comes_56 rfl ?_
    refine wp_iload 7 dX11_comes_58 rfl ?_
    refine wp_bipush (v := 10) dX11_comes_60 rfl ?_
    refine wp_irem dX11_comes_62 (by decide) ?_
    refine wp_i2l dX11_comes_63 ?_
    obtain ⟨j26, o27, o28, h⟩ := h
    refine wp_last (n := 5) dX11_comes_64 (sh10_K_weights hS) (sh10_N_weights hS) (by decide) o27 o28 ?_
    refine wp_nm (fun M29 eM29 => ?_)
    replace h := h M29 eM29
    refine wp_iload 7 dX11_comes_65 rfl ?_
    refine wp_bipush (v := 10) dX11_comes_67 rfl ?_
    refine wp_idiv dX11_comes_69 (by decide) ?_
    refine wp_topi (fun v30 ev30 => ?_)
    replace h := h v30 ev30
    refine wp_istore (lo2 := [(7, .int _), (0, .ref _), (1, .int _), (2, .int _), (3, .int _), (4, .int _), (5, .int _), (6, .int _), (8, .int _)]) dX11_comes_70 (by decide) rfl ?_
    refine wp_iinc (v := x8 + (-1)) (lo2 := [(8, .int _), (7, .int _), (0, .ref _), (1, .int _), (2, .int _), (3, .int _), (4, .int _), (5, .int _), (6, .int _)]) dX11_comes_72 (q := 8) rfl rfl (by decide) rfl ?_
    refine wp_goto (tgt := 47) dX11_comes_75 (by decide) ?_
    exact Wp.sub [2, 3, 4, 5, 6, 7, 8, 1, 0] rfl h
theorem bX11_comes_143 {G : Gl} {d : Nat} {X : Sh} {M : Mm} {Q : Mm → Prop} {a : Nat} {x2 : Int32} {x3 : Int32} {x4 : Int32} {x5 : Int32} {x8 : Int32} (hS : Sh10 X a) (h : ((5 ≤ x8 → (∃ j2 : Nat, (x3 + 3) = nI j2 ∧ j2 < 2950 ∧ (∀ M5 : Mm, M5 = sI M (a + 1) j2 ((mI M (a + 1) j2) - x2) → (∀ M6 : Mm, M6 = sI M5 (a + 1) 1 ((mI M5 (a + 1) 1) + 1) → (∃ q7 : Mm → Prop, Cv G m_X11_slide d [.ref a, .int x4] X M6 q7 ∧ ∀ M9, q7 M9 → Q M9))))) ∧ (¬ (5 ≤ x8) → (∃ j11 : Nat, x8 = nI j11 ∧ j11 < 5 ∧ (∃ j14 : Nat, ((x5 + 5) + x8) = nI j14 ∧ j14 < 2950 ∧ (∀ M17 : Mm, M17 = sI M (a + 1) j14 (mI M (a + 13) j11) → Wv G m_X11_comes (d + 1) 143 [(0, .ref a), (2, .int x2), (3, .int x3), (4, .int x4), (5, .int x5), (8, .int (x8 + 1))] [] X M17 Q)))))) : Wv G m_X11_comes (d + 1) 143 [(0, .ref a), (2, .int x2), (3, .int x3), (4, .int x4), (5, .int x5), (8, .int x8)] [] X M Q := by
  refine wp_iload 5 dX11_comes_143 rfl ?_
  refine wp_iconst (v := 5) dX11_comes_145 rfl ?_
  refine wp_icmp_ge (tgt := 174) dX11_comes_146 (by decide) (fun c1 => ?_) (fun c1 => ?_)
  · replace h := h.1 c1
    refine wp_aload_n 0 dX11_comes_174 rfl rfl ?_
    refine wp_getR dX11_comes_175 fl_RX11_7 rfl (sh10_K hS) (sh10_F_s hS) ?_
    refine wp_iload_n 2 dX11_comes_178 rfl rfl ?_
    refine wp_iconst (v := 3) dX11_comes_179 rfl ?_
    refine wp_iadd dX11_comes_180 ?_
    refine wp_dup2_11 dX11_comes_181 rfl rfl ?_
    obtain ⟨j2, o3, o4, h⟩ := h
    refine wp_iald (n := 2950) dX11_comes_182 (sh10_K_s hS) (sh10_N_s hS) (by decide) o3 o4 ?_
    refine wp_iload_n 1 dX11_comes_183 rfl rfl ?_
    refine wp_isub dX11_comes_184 ?_
    refine wp_iast (n := 2950) dX11_comes_185 (sh10_K_s hS) (sh10_N_s hS) (by decide) o3 o4 ?_
    refine wp_nm (fun M5 eM5 => ?_)
    replace h := h M5 eM5
    refine wp_aload_n 0 dX11_comes_186 rfl rfl ?_
    refine wp_getR dX11_comes_187 fl_RX11_7 rfl (sh10_K hS) (sh10_F_s hS) ?_
    refine wp_iconst (v := 1) dX11_comes_190 rfl ?_
    refine wp_dup2_11 dX11_comes_191 rfl rfl ?_
    refine wp_iald (n := 2950) dX11_comes_192 (sh10_K_s hS) (sh10_N_s hS) (by decide) rfl (by decide) ?_
    refine wp_iconst (v := 1) dX11_comes_193 rfl ?_
    refine wp_iadd dX11_comes_194 ?_
    refine wp_iast (n := 2950) dX11_comes_195 (sh10_K_s hS) (sh10_N_s hS) (by decide) rfl (by decide) ?_
    refine wp_nm (fun M6 eM6 => ?_)
    replace h := h M6 eM6
    refine wp_aload_n 0 dX11_comes_196 rfl rfl ?_
    refine wp_iload 3 dX11_comes_197 rfl ?_
    obtain ⟨q7, o8, h⟩ := h
    refine wp_cvv dX11_comes_199 ck_RX11_150 (sh10_K hS) (as := [.int x4]) rfl rfl (Nat.le_of_ble_eq_true rfl) o8 (fun M9 o10 => ?_)
    replace h := h M9 o10
    exact wv_ret dX11_comes_202 rfl h
  · replace h := h.2 c1
    refine wp_aload_n 0 dX11_comes_149 rfl rfl ?_
    refine wp_getR dX11_comes_150 fl_RX11_7 rfl (sh10_K hS) (sh10_F_s hS) ?_
    refine wp_iload 4 dX11_comes_153 rfl ?_
    refine wp_iconst (v := 5) dX11_comes_155 rfl ?_
    refine wp_iadd dX11_comes_156 ?_
    refine wp_iload 5 dX11_comes_157 rfl ?_
    refine wp_iadd dX11_comes_159 ?_
    refine wp_aload_n 0 dX11_comes_160 rfl rfl ?_
    refine wp_getR dX11_comes_161 fl_RX11_47 rfl (sh10_K hS) (sh10_F_parts hS) ?_
    refine wp_iload 5 dX11_comes_164 rfl ?_
    obtain ⟨j11, o12, o13, h⟩ := h
    refine wp_iald (n := 5) dX11_comes_166 (sh10_K_parts hS) (sh10_N_parts hS) (by decide) o12 o13 ?_
    obtain ⟨j14, o15, o16, h⟩ := h
    refine wp_iast (n := 2950) dX11_comes_167 (sh10_K_s hS) (sh10_N_s hS) (by decide) o15 o16 ?_
    refine wp_nm (fun M17 eM17 => ?_)
    replace h := h M17 eM17
    refine wp_iinc (v := x8 + 1) (lo2 := [(8, .int _), (0, .ref _), (2, .int _), (3, .int _), (4, .int _), (5, .int _)]) dX11_comes_168 (q := 5) rfl rfl (by decide) rfl ?_
    refine wp_goto (tgt := 143) dX11_comes_171 (by decide) ?_
    exact Wp.sub [1, 2, 3, 4, 5, 0] rfl h
/-- behind a step that writes the flat row (and scratch rows): all else is as it was -/
def KpR (a : Nat) (M M2 : Mm) : Prop := (∀ b, b ≠ a + 1 → b ≠ a + 13 → b ≠ a + 15 → b ≠ a + 16 → mI M2 b = mI M b) ∧ mR M2 = mR M
theorem cl_comes_143 (G : Gl) (d : Nat) (hd : 2 ≤ d) {X : Sh} {a nl b : Nat} {t : Int32} {σ p : Nat → Int32} {Q : Mm → Prop} (hS : Sh10 X a) (hnl : nl < 24) (hb : b < 6) (M0 : Mm)
    (hq : ∀ M2, mI M2 (a + 1) = s_slide (fun k => if 65 + 10 * nl ≤ k ∧ k < 70 + 10 * nl then p (k - (65 + 10 * nl)) else if k = 23 + 5 * b then σ k - t else if k = 1 then σ 1 + 1 else σ k) (nl + 1) nl → KpR a M0 M2 → Q M2) (hn : σ 1 = nI nl) :
    ∀ (n i : Nat) (M : Mm), i + n = 5 → (∀ r, r < 5 → mI M (a + 13) r = p r) → mI M (a + 1) = (fun k => if 65 + 10 * nl ≤ k ∧ k < 65 + 10 * nl + i then p (k - (65 + 10 * nl)) else σ k) → KpR a M0 M →
      Wv G m_X11_comes (d + 1) 143 [(0, .ref a), (2, .int t), (3, .int (nI (20 + 5 * b))), (4, .int (nI nl)), (5, .int (nI (60 + 10 * nl))), (8, .int (nI i))] [] X M Q
  | 0, i, M, h, hp, hs, hM => by
    have hi : i = 5 := h
    subst hi
    refine bX11_comes_143 hS ⟨fun _ => ⟨23 + 5 * b, (by first | rfl | (simp only [n_lit, nI_add, pk_mul]; done) | (simp only [n_lit, nI_add, pk_mul]; exact congrArg nI (by omega))), by omega, ?_⟩, fun h => absurd (by decide) h⟩
    intro M5 e5 M6 e6
    have r5 : mI M6 (a + 1) = fun k => if 65 + 10 * nl ≤ k ∧ k < 70 + 10 * nl then p (k - (65 + 10 * nl)) else if k = 23 + 5 * b then σ k - t else if k = 1 then σ 1 + 1 else σ k := by
      subst e6
      subst e5
      simp only [mI_sI, up2_row, hs]
      funext k
      simp only [upd]
      by_cases h1 : k = 1
      · subst h1
        rw [if_pos rfl, if_neg (by omega), if_neg (by omega), if_neg (by omega), if_neg (by omega), if_pos rfl]
      · by_cases h2 : k = 23 + 5 * b
        · subst h2
          rw [if_neg h1, if_pos rfl, if_neg (by omega), if_neg (by omega), if_pos rfl]
        · rw [if_neg h1, if_neg h2, if_neg h2, if_neg h1]
          by_cases h3 : 65 + 10 * nl ≤ k ∧ k < 70 + 10 * nl
          · rw [if_pos h3, if_pos ⟨h3.1, by omega⟩]
          · rw [if_neg h3, if_neg (fun q => h3 ⟨q.1, by omega⟩)]
    have hM6 : KpR a M0 M6 := by
      subst e6
      subst e5
      refine ⟨fun b h1 h2 h3 h4 => ?_, hM.2⟩
      rw [mI_sI, up2_off _ _ _ h1, mI_sI, up2_off _ _ _ h1]
      exact hM.1 b h1 h2 h3 h4
    refine ⟨_, cp_X11_slide G d hd X M6 a nl (nl + 1) hS hnl (by omega) ?_, fun M9 h9 => hq M9 (by rw [h9.1, r5]) ⟨fun b h1 h2 h3 h4 => ?_, h9.2.2.trans hM6.2⟩⟩
    · rw [r5]
      show (if 65 + 10 * nl ≤ 1 ∧ 1 < 70 + 10 * nl then _ else if 1 = 23 + 5 * b then _ else if 1 = 1 then σ 1 + 1 else _) = _
      rw [if_neg (by omega), if_neg (by omega), if_pos rfl, hn, nI_1]
    · rw [h9.2.1 b h1 h3 h4]
      exact hM6.1 b h1 h2 h3 h4
  | n + 1, i, M, h, hp, hs, hM => by
    refine bX11_comes_143 hS ⟨fun h2 => absurd h2 (n5 (by omega)), fun _ => ⟨i, rfl, by omega, 65 + 10 * nl + i, (by first | rfl | (simp only [n_lit, nI_add, pk_mul]; done) | (simp only [n_lit, nI_add, pk_mul]; exact congrArg nI (by omega))), by omega, ?_⟩⟩
    rintro M17 rfl
    rw [nI_1]
    refine cl_comes_143 G d hd hS hnl hb M0 hq hn n (i + 1) _ (by omega) (fun r hr => ?_) ?_ ⟨fun b h1 h2 h3 h4 => ?_, hM.2⟩
    · rw [mI_sI, up2_off _ _ _ (by omega)]
      exact hp r hr
    · rw [mI_sI, up2_row, hs]
      funext k
      simp only [upd]
      by_cases h1 : k = 65 + 10 * nl + i
      · rw [if_pos h1, if_pos (by omega), hp i (by omega)]
        congr 1
        omega
      · rw [if_neg h1]
        by_cases h2 : 65 + 10 * nl ≤ k ∧ k < 65 + 10 * nl + i
        · rw [if_pos h2, if_pos (by omega)]
        · rw [if_neg h2, if_neg (by omega)]
    · rw [mI_sI, up2_off _ _ _ h1]
      exact hM.1 b h1 h2 h3 h4
theorem cl_comes_47 (G : Gl) (d : Nat) {X : Sh} {a nl b : Nat} {t bulk T : Int32} {Q : Mm → Prop} (hS : Sh10 X a) (hnl : nl < 24) (hb : b < 6) (M0 : Mm)
    (hq : ∀ M, (∀ r, r < 5 → mI M (a + 13) r = s_parts bulk (fun r => (dgW T r).toInt64) r) → mI M (a + 1) = upd (upd (upd (upd (upd (mI M0 (a + 1)) (60 + 10 * nl) (nI b)) (61 + 10 * nl) (upd (mI M0 (a + 1)) (60 + 10 * nl) (nI b) 5)) (62 + 10 * nl) t) (63 + 10 * nl) bulk) (64 + 10 * nl) 0 → KpR a M0 M → Wv G m_X11_comes (d + 1) 143 [(0, .ref a), (2, .int t), (3, .int (nI (20 + 5 * b))), (4, .int (nI nl)), (5, .int (nI (60 + 10 * nl))), (8, .int 0)] [] X M Q) :
    ∀ (n : Nat) (M : Mm) (x8 : Int32), x8 = nI n - 1 → n ≤ 5 → (∀ r, n ≤ r → r < 5 → mJ M (a + 12) r = (dgW T r).toInt64) → mI M = mI M0 → mR M = mR M0 →
      Wv G m_X11_comes (d + 1) 47 [(0, .ref a), (1, .int (nI b)), (2, .int t), (3, .int (nI (20 + 5 * b))), (4, .int (nI nl)), (5, .int (nI (60 + 10 * nl))), (6, .int bulk), (7, .int (dgL T (5 - n))), (8, .int x8)] [] X M Q
  | 0, M, x8, h, h5, hw, h1, h2 => by
    subst h
    refine bX11_comes_47 hS ⟨fun _ => ⟨_, cp_X11_part G d X M a bulk hS, ?_⟩, fun h => absurd (by decide) h⟩
    intro M4 h4
    refine ⟨60 + 10 * nl, (by first | rfl | (simp only [n_lit, nI_add, pk_mul]; done) | (simp only [n_lit, nI_add, pk_mul]; exact congrArg nI (by omega))), by omega, ?_⟩
    intro M9 e9
    refine ⟨61 + 10 * nl, (by first | rfl | (simp only [n_lit, nI_add, pk_mul]; done) | (simp only [n_lit, nI_add, pk_mul]; exact congrArg nI (by omega))), by omega, ?_⟩
    intro M13 e13
    refine ⟨62 + 10 * nl, (by first | rfl | (simp only [n_lit, nI_add, pk_mul]; done) | (simp only [n_lit, nI_add, pk_mul]; exact congrArg nI (by omega))), by omega, ?_⟩
    intro M17 e17
    refine ⟨63 + 10 * nl, (by first | rfl | (simp only [n_lit, nI_add, pk_mul]; done) | (simp only [n_lit, nI_add, pk_mul]; exact congrArg nI (by omega))), by omega, ?_⟩
    intro M21 e21
    refine ⟨64 + 10 * nl, (by first | rfl | (simp only [n_lit, nI_add, pk_mul]; done) | (simp only [n_lit, nI_add, pk_mul]; exact congrArg nI (by omega))), by omega, ?_⟩
    intro M25 e25
    subst e25 e21 e17 e13 e9
    have e4 : mI M4 (a + 1) = mI M0 (a + 1) := by
      rw [h4.2.1 _ (by omega), h1]
    refine hq _ (fun r hr => ?_) ?_ ⟨fun b' k1 k2 k3 k4 => ?_, h4.2.2.trans h2⟩
    · simp only [mI_sI, up2_off _ _ _ (show a + 13 ≠ a + 1 by omega)]
      rw [h4.1 r hr]
      exact s_parts_cong (fun k hk => hw k (by omega) hk) r hr
    · simp only [mI_sI, up2_row, e4]
    · simp only [mI_sI, up2_off _ _ _ k1]
      rw [h4.2.1 b' k2, h1]
  | n + 1, M, x8, h, h5, hw, h1, h2 => by
    rw [nI_pred] at h
    subst h
    refine bX11_comes_47 hS ⟨fun h2 => absurd h2 (nI_pos (by omega)), fun _ => ⟨n, rfl, by omega, ?_⟩⟩
    rintro M29 rfl v30 rfl
    have e : dgL T (5 - (n + 1)) / 10 = dgL T (5 - n) := by
      rw [show 5 - n = 5 - (n + 1) + 1 by omega]
      rfl
    rw [e]
    refine cl_comes_47 G d hS hnl hb M0 hq n _ _ ?_ (by omega) (fun r hr hr5 => ?_) h1 h2
    · exact (Int32.sub_eq_add_neg _ _).symm
    · rw [mJ_sJ]
      by_cases e2 : r = n
      · subst e2
        rw [up2_same]
        unfold dgW
        rw [show 4 - r = 5 - (r + 1) by omega, e]
      · rw [up2_k _ _ _ e2]
        exact hw r (by omega) hr5
theorem cp_X11_comes (G : Gl) (d : Nat) (hd : 3 ≤ d) (X : Sh) (M : Mm) (a b nl : Nat) (t : Int32) (hS : Sh10 X a) (hb : b < 6) (hnl : nl < 24) (hn : mI M (a + 1) 1 = nI nl) : Cv G m_X11_comes d [.ref a, .int (nI b), .int t] X M (fun M2 => mI M2 (a + 1) = s_comes (mI M (a + 1)) nl b t ∧ KpR a M M2) := by
  obtain ⟨d, rfl⟩ : ∃ d1, d = d1 + 1 := ⟨d - 1, by omega⟩
  refine Cv.of (by decide) (Nat.le_of_ble_eq_true rfl) (bX11_comes_0 hS ?_)
  rintro v1 rfl v2 rfl v3 rfl
  rw [hn]
  have e1 : 20 + 5 * nI b = nI (20 + 5 * b) := (by first | rfl | (simp only [n_lit, nI_add, pk_mul]; done) | (simp only [n_lit, nI_add, pk_mul]; exact congrArg nI (by omega)))
  have e3 : 60 + 10 * nI nl = nI (60 + 10 * nl) := (by first | rfl | (simp only [n_lit, nI_add, pk_mul]; done) | (simp only [n_lit, nI_add, pk_mul]; exact congrArg nI (by omega)))
  rw [e1, e3]
  refine ⟨20 + 5 * b, rfl, by omega, ?_⟩
  rintro v7 rfl
  refine ⟨24 + 5 * b, (by first | rfl | (simp only [n_lit, nI_add, pk_mul]; done) | (simp only [n_lit, nI_add, pk_mul]; exact congrArg nI (by omega))), by omega, ?_⟩
  rintro v11 rfl
  refine cl_comes_47 G d (T := mI M (a + 1) (24 + 5 * b)) hS hnl hb M (fun M4 hp hs hM => ?_) 5 M 4 rfl (Nat.le_refl _) (fun r h1 h2 => absurd h1 (by omega)) rfl rfl
  refine cl_comes_143 G d (by omega) (σ := mI M4 (a + 1)) hS hnl hb M ?hq ?hn 5 0 M4 rfl hp ?hs hM
  case hq =>
    intro M2 h2 hM2
    refine ⟨?_, hM2⟩
    rw [h2]
    unfold s_comes
    congr 1
    rw [hs]
    funext k
    unfold s_lay
    simp only [upd]
    by_cases h1 : 65 + 10 * nl ≤ k ∧ k < 70 + 10 * nl
    · rw [if_pos h1, if_neg (by omega), if_neg (by omega), if_neg (by omega), if_neg (by omega), if_neg (by omega), if_pos h1]
    · rw [if_neg h1]
      by_cases h2 : k = 23 + 5 * b
      · subst h2
        rw [if_pos rfl, if_neg (by omega), if_neg (by omega), if_neg (by omega), if_neg (by omega), if_neg (by omega), if_neg (by omega), if_neg (by omega), if_neg (by omega), if_neg (by omega), if_neg (by omega), if_neg h1, if_pos rfl]
      · rw [if_neg h2]
        by_cases h3 : k = 1
        · subst h3
          rw [if_pos rfl, if_neg (by omega), if_neg (by omega), if_neg (by omega), if_neg (by omega), if_neg (by omega), if_neg (by omega), if_neg (by omega), if_neg (by omega), if_neg (by omega), if_neg (by omega), if_neg h1, if_neg h2, if_pos rfl]
        · rw [if_neg h3]
          by_cases h4 : k = 60 + 10 * nl
          · subst h4
            rw [if_neg (by omega), if_neg (by omega), if_neg (by omega), if_neg (by omega), if_pos rfl, if_pos rfl]
          · by_cases h5 : k = 61 + 10 * nl
            · subst h5
              rw [if_neg (by omega), if_neg (by omega), if_neg (by omega), if_pos rfl, if_neg (by omega), if_neg (by omega), if_pos rfl]
            · by_cases h6 : k = 62 + 10 * nl
              · subst h6
                rw [if_neg (by omega), if_neg (by omega), if_pos rfl, if_neg (by omega), if_neg (by omega), if_pos rfl]
              · by_cases h7 : k = 63 + 10 * nl
                · subst h7
                  rw [if_neg (by omega), if_pos rfl, if_neg (by omega), if_neg (by omega), if_neg (by omega), if_pos rfl]
                · by_cases h8 : k = 64 + 10 * nl
                  · subst h8
                    rw [if_pos rfl, if_neg (by omega), if_neg (by omega), if_neg (by omega), if_neg (by omega), if_pos rfl]
                  · rw [if_neg h8, if_neg h7, if_neg h6, if_neg h5, if_neg h4, if_neg h4, if_neg h5, if_neg h6, if_neg h7, if_neg h8, if_neg h1, if_neg h2, if_neg h3]
  case hn =>
    rw [hs]
    simp only [upd]
    rw [if_neg (by omega), if_neg (by omega), if_neg (by omega), if_neg (by omega), if_neg (by omega)]
    exact hn
  case hs =>
    funext k
    rw [if_neg (by omega)]
