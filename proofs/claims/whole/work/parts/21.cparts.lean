/-! the class's furnace: tops, sums, parts -/
theorem bX1_topOf_0 {G : Gl} {d : Nat} {X : Sh} {M : Mm} {Q : Mm → Int32 → Prop} {a : Nat} {x1 : Int32} (hS : Sh1 X a) (h : (∃ j1 : Nat, x1 = nI j1 ∧ j1 < 5 ∧ (¬ ((areaV j1) = 0) ∧ Q M (((mI M (a + 50) j1) * 100) / (areaV j1))))) : Wn G m_X1_topOf d 0 [(0, .ref a), (1, .int x1)] [] X M Q := by
  refine wp_aload_n 0 dX1_topOf_0 rfl rfl ?_
  refine wp_getR dX1_topOf_1 fl_RX1_34 rfl (sh1_K hS) (sh1_F_bulk hS) ?_
  refine wp_iload_n 1 dX1_topOf_4 rfl rfl ?_
  obtain ⟨j1, o2, o3, h⟩ := h
  refine wp_iald (n := 5) dX1_topOf_5 (sh1_K_bulk hS) (sh1_N_bulk hS) (by decide) o2 o3 ?_
  refine wp_bipush (v := 100) dX1_topOf_6 rfl ?_
  refine wp_imul dX1_topOf_8 ?_
  refine wp_areas dX1_topOf_9 fs_RX1_58 ?_
  refine wp_iload_n 1 dX1_topOf_12 rfl rfl ?_
  refine wp_areaAt dX1_topOf_13 o2 o3 ?_
  obtain ⟨o4, h⟩ := h
  refine wp_idiv dX1_topOf_14 o4 ?_
  exact wn_iret dX1_topOf_15 rfl h
theorem area_ne0 {r : Nat} (h : r < 5) : ¬ areaV r = 0 := by
  match r, h with
  | 0, _ => decide
  | 1, _ => decide
  | 2, _ => decide
  | 3, _ => decide
  | 4, _ => decide
abbrev c_top (β : Nat → Int32) (r : Nat) : Int32 := β r * 100 / areaV r
theorem cp_X1_topOf (G : Gl) (d : Nat) (X : Sh) (M : Mm) (a r : Nat) (hS : Sh1 X a) (hr : r < 5) : Cn G m_X1_topOf d [.ref a, .int (nI r)] X M (fun M2 x => M2 = M ∧ x = c_top (mI M (a + 50)) r) := by
  refine Cn.of (by decide) (Nat.le_of_ble_eq_true rfl) (bX1_topOf_0 hS ⟨r, rfl, hr, area_ne0 hr, rfl, rfl⟩)
theorem bX1_greatestTop_0 {G : Gl} {d : Nat} {X : Sh} {M : Mm} {Q : Mm → Int32 → Prop} {a : Nat} (hS : Sh1 X a) (h : Wn G m_X1_greatestTop (d + 1) 4 [(0, .ref a), (1, .int 0), (2, .int 0)] [] X M Q) : Wn G m_X1_greatestTop (d + 1) 0 [(0, .ref a)] [] X M Q := by
  refine wp_iconst (v := 0) dX1_greatestTop_0 rfl ?_
  refine wp_istore_n (lo2 := [(1, .int _), (0, .ref _)]) dX1_greatestTop_1 rfl (by decide) rfl ?_
  refine wp_iconst (v := 0) dX1_greatestTop_2 rfl ?_
  refine wp_istore_n (lo2 := [(2, .int _), (1, .int _), (0, .ref _)]) dX1_greatestTop_3 rfl (by decide) rfl ?_
  exact Wp.sub [2, 1, 0] rfl h
theorem bX1_greatestTop_4 {G : Gl} {d : Nat} {X : Sh} {M : Mm} {Q : Mm → Int32 → Prop} {a : Nat} {x1 : Int32} {x2 : Int32} (hS : Sh1 X a) (h : ((5 ≤ x2 → Q M x1) ∧ (¬ (5 ≤ x2) → (∃ q2 : Mm → Int32 → Prop, Cn G m_X1_topOf d [.ref a, .int x2] X M q2 ∧ ∀ M4 r5, q2 M4 r5 → (∀ v7 : Int32, v7 = (if x1 < r5 then r5 else x1) → Wn G m_X1_greatestTop (d + 1) 4 [(0, .ref a), (1, .int v7), (2, .int (x2 + 1))] [] X M4 Q))))) : Wn G m_X1_greatestTop (d + 1) 4 [(0, .ref a), (1, .int x1), (2, .int x2)] [] X M Q := by
  refine wp_iload_n 2 dX1_greatestTop_4 rfl rfl ?_
  refine wp_iconst (v := 5) dX1_greatestTop_5 rfl ?_
  refine wp_icmp_ge (tgt := 25) dX1_greatestTop_6 (by decide) (fun c1 => ?_) (fun c1 => ?_)
  · replace h := h.1 c1
    refine wp_iload_n 1 dX1_greatestTop_25 rfl rfl ?_
    exact wn_iret dX1_greatestTop_26 rfl h
  · replace h := h.2 c1
    refine wp_iload_n 1 dX1_greatestTop_9 rfl rfl ?_
    refine wp_aload_n 0 dX1_greatestTop_10 rfl rfl ?_
    refine wp_iload_n 2 dX1_greatestTop_11 rfl rfl ?_
    obtain ⟨q2, o3, h⟩ := h
    refine wp_cvi dX1_greatestTop_12 ck_RX1_61 (sh1_K hS) (as := [.int x2]) rfl rfl (Nat.le_of_ble_eq_true rfl) o3 (fun M4 r5 o6 => ?_)
    replace h := h M4 r5 o6
    refine wp_mmax dX1_greatestTop_15 ml_RX1_65 ms_max mi_Math mc_max (Nat.le_of_ble_eq_true rfl) (Nat.le_refl _) (Nat.le_refl _) ?_
    refine wp_topi (fun v7 ev7 => ?_)
    replace h := h v7 ev7
    refine wp_istore_n (lo2 := [(1, .int _), (0, .ref _), (2, .int _)]) dX1_greatestTop_18 rfl (by decide) rfl ?_
    refine wp_iinc (v := x2 + 1) (lo2 := [(2, .int _), (1, .int _), (0, .ref _)]) dX1_greatestTop_19 (q := 2) rfl rfl (by decide) rfl ?_
    refine wp_goto (tgt := 4) dX1_greatestTop_22 (by decide) ?_
    exact Wp.sub [2, 1, 0] rfl h
theorem cl_X1_greatestTop (G : Gl) (d : Nat) {X : Sh} {M : Mm} {a : Nat} {Q : Mm → Int32 → Prop} (hS : Sh1 X a) (hq : Q M (s_great (c_top (mI M (a + 50))) 5)) :
    ∀ n i : Nat, i + n = 5 → Wn G m_X1_greatestTop (d + 1) 4 [(0, .ref a), (1, .int (s_great (c_top (mI M (a + 50))) i)), (2, .int (nI i))] [] X M Q
  | 0, i, h => by
    have hi : i = 5 := h
    subst hi
    exact bX1_greatestTop_4 hS ⟨fun _ => hq, fun h => absurd (by decide) h⟩
  | n + 1, i, h => by
    refine bX1_greatestTop_4 hS ⟨fun h2 => absurd h2 (n5 (by omega)), fun _ => ⟨_, cp_X1_topOf G d X M a i hS (by omega), ?_⟩⟩
    rintro M2 _ ⟨e, rfl⟩
    have e := e.symm
    subst e
    rintro v rfl
    rw [nI_1]
    exact cl_X1_greatestTop G d hS hq n (i + 1) (by omega)
theorem cp_X1_greatestTop (G : Gl) (d : Nat) (hd : 1 ≤ d) (X : Sh) (M : Mm) (a : Nat) (hS : Sh1 X a) : Cn G m_X1_greatestTop d [.ref a] X M (fun M2 x => M2 = M ∧ x = s_great (c_top (mI M (a + 50))) 5) := by
  obtain ⟨d, rfl⟩ : ∃ d1, d = d1 + 1 := ⟨d - 1, by omega⟩
  refine Cn.of (by decide) (Nat.le_of_ble_eq_true rfl) (bX1_greatestTop_0 hS ?_)
  exact cl_X1_greatestTop G d hS ⟨rfl, rfl⟩ 5 0 (by omega)
theorem bX1_allBulk_0 {G : Gl} {d : Nat} {X : Sh} {M : Mm} {Q : Mm → Int32 → Prop} {a : Nat} (hS : Sh1 X a) (h : Wn G m_X1_allBulk d 4 [(0, .ref a), (1, .int 0), (2, .int 0)] [] X M Q) : Wn G m_X1_allBulk d 0 [(0, .ref a)] [] X M Q := by
  refine wp_iconst (v := 0) dX1_allBulk_0 rfl ?_
  refine wp_istore_n (lo2 := [(1, .int _), (0, .ref _)]) dX1_allBulk_1 rfl (by decide) rfl ?_
  refine wp_iconst (v := 0) dX1_allBulk_2 rfl ?_
  refine wp_istore_n (lo2 := [(2, .int _), (1, .int _), (0, .ref _)]) dX1_allBulk_3 rfl (by decide) rfl ?_
  exact Wp.sub [2, 1, 0] rfl h
theorem bX1_allBulk_4 {G : Gl} {d : Nat} {X : Sh} {M : Mm} {Q : Mm → Int32 → Prop} {a : Nat} {x1 : Int32} {x2 : Int32} (hS : Sh1 X a) (h : ((5 ≤ x2 → Q M x1) ∧ (¬ (5 ≤ x2) → (∃ j2 : Nat, x2 = nI j2 ∧ j2 < 5 ∧ (∀ v5 : Int32, v5 = (x1 + (mI M (a + 50) j2)) → Wn G m_X1_allBulk d 4 [(0, .ref a), (1, .int v5), (2, .int (x2 + 1))] [] X M Q))))) : Wn G m_X1_allBulk d 4 [(0, .ref a), (1, .int x1), (2, .int x2)] [] X M Q := by
  refine wp_iload_n 2 dX1_allBulk_4 rfl rfl ?_
  refine wp_iconst (v := 5) dX1_allBulk_5 rfl ?_
  refine wp_icmp_ge (tgt := 24) dX1_allBulk_6 (by decide) (fun c1 => ?_) (fun c1 => ?_)
  · replace h := h.1 c1
    refine wp_iload_n 1 dX1_allBulk_24 rfl rfl ?_
    exact wn_iret dX1_allBulk_25 rfl h
  · replace h := h.2 c1
    refine wp_iload_n 1 dX1_allBulk_9 rfl rfl ?_
    refine wp_aload_n 0 dX1_allBulk_10 rfl rfl ?_
    refine wp_getR dX1_allBulk_11 fl_RX1_34 rfl (sh1_K hS) (sh1_F_bulk hS) ?_
    refine wp_iload_n 2 dX1_allBulk_14 rfl rfl ?_
    obtain ⟨j2, o3, o4, h⟩ := h
    refine wp_iald (n := 5) dX1_allBulk_15 (sh1_K_bulk hS) (sh1_N_bulk hS) (by decide) o3 o4 ?_
    refine wp_iadd dX1_allBulk_16 ?_
    refine wp_topi (fun v5 ev5 => ?_)
    replace h := h v5 ev5
    refine wp_istore_n (lo2 := [(1, .int _), (0, .ref _), (2, .int _)]) dX1_allBulk_17 rfl (by decide) rfl ?_
    refine wp_iinc (v := x2 + 1) (lo2 := [(2, .int _), (1, .int _), (0, .ref _)]) dX1_allBulk_18 (q := 2) rfl rfl (by decide) rfl ?_
    refine wp_goto (tgt := 4) dX1_allBulk_21 (by decide) ?_
    exact Wp.sub [2, 1, 0] rfl h
theorem cl_X1_allBulk (G : Gl) (d : Nat) {X : Sh} {M : Mm} {a : Nat} {Q : Mm → Int32 → Prop} (hS : Sh1 X a) (hq : Q M (s_sum (mI M (a + 50)) 0 5)) :
    ∀ n i : Nat, i + n = 5 → Wn G m_X1_allBulk d 4 [(0, .ref a), (1, .int (s_sum (mI M (a + 50)) 0 i)), (2, .int (nI i))] [] X M Q
  | 0, i, h => by
    have hi : i = 5 := h
    subst hi
    exact bX1_allBulk_4 hS ⟨fun _ => hq, fun h => absurd (by decide) h⟩
  | n + 1, i, h => by
    refine bX1_allBulk_4 hS ⟨fun h2 => absurd h2 (n5 (by omega)), fun _ => ⟨i, rfl, by omega, ?_⟩⟩
    rintro v rfl
    rw [nI_1]
    exact cl_X1_allBulk G d hS hq n (i + 1) (by omega)
theorem cp_X1_allBulk (G : Gl) (d : Nat) (X : Sh) (M : Mm) (a : Nat) (hS : Sh1 X a) : Cn G m_X1_allBulk d [.ref a] X M (fun M2 x => M2 = M ∧ x = s_sum (mI M (a + 50)) 0 5) := by
  refine Cn.of (by decide) (Nat.le_of_ble_eq_true rfl) (bX1_allBulk_0 hS ?_)
  exact cl_X1_allBulk G d hS ⟨rfl, rfl⟩ 5 0 (by omega)
theorem bX1_resistanceOf_0 {G : Gl} {d : Nat} {X : Sh} {M : Mm} {Q : Mm → Int32 → Prop} {a : Nat} {x1 : Int32} (hS : Sh1 X a) (h : Wn G m_X1_resistanceOf d 4 [(0, .ref a), (1, .int x1), (2, .int 1), (3, .int 0)] [] X M Q) : Wn G m_X1_resistanceOf d 0 [(0, .ref a), (1, .int x1)] [] X M Q := by
  refine wp_iconst (v := 1) dX1_resistanceOf_0 rfl ?_
  refine wp_istore_n (lo2 := [(2, .int _), (0, .ref _), (1, .int _)]) dX1_resistanceOf_1 rfl (by decide) rfl ?_
  refine wp_iconst (v := 0) dX1_resistanceOf_2 rfl ?_
  refine wp_istore_n (lo2 := [(3, .int _), (2, .int _), (0, .ref _), (1, .int _)]) dX1_resistanceOf_3 rfl (by decide) rfl ?_
  exact Wp.sub [2, 3, 1, 0] rfl h
theorem bX1_resistanceOf_4 {G : Gl} {d : Nat} {X : Sh} {M : Mm} {Q : Mm → Int32 → Prop} {a : Nat} {x1 : Int32} {x2 : Int32} {x3 : Int32} (hS : Sh1 X a) (h : (((mI M a 5) ≤ x3 → Q M x2) ∧ (¬ ((mI M a 5) ≤ x3) → (∃ j2 : Nat, x3 = nI j2 ∧ j2 < 24 ∧ (∃ la5 : Nat, mR M (a + 1) j2 = some la5 ∧ Sh4 X la5 ∧ (∃ j8 : Nat, x1 = nI j8 ∧ j8 < 5 ∧ (∃ la11 : Nat, mR M (a + 1) j2 = some la11 ∧ Sh4 X la11 ∧ (∀ v14 : Int32, v14 = (x2 + ((mI M (la5 + 1) j8) * (mI M la11 3))) → Wn G m_X1_resistanceOf d 4 [(0, .ref a), (1, .int x1), (2, .int v14), (3, .int (x3 + 1))] [] X M Q)))))))) : Wn G m_X1_resistanceOf d 4 [(0, .ref a), (1, .int x1), (2, .int x2), (3, .int x3)] [] X M Q := by
  refine wp_iload_n 3 dX1_resistanceOf_4 rfl rfl ?_
  refine wp_aload_n 0 dX1_resistanceOf_5 rfl rfl ?_
  refine wp_getI dX1_resistanceOf_6 fl_RX1_31 rfl (sh1_K hS) ?_
  refine wp_icmp_ge (tgt := 42) dX1_resistanceOf_9 (by decide) (fun c1 => ?_) (fun c1 => ?_)
  · replace h := h.1 c1
    refine wp_iload_n 2 dX1_resistanceOf_42 rfl rfl ?_
    exact wn_iret dX1_resistanceOf_43 rfl h
  · replace h := h.2 c1
    refine wp_iload_n 2 dX1_resistanceOf_12 rfl rfl ?_
    refine wp_aload_n 0 dX1_resistanceOf_13 rfl rfl ?_
    refine wp_getR dX1_resistanceOf_14 fl_RX1_26 rfl (sh1_K hS) (sh1_F_layers hS) ?_
    refine wp_iload_n 3 dX1_resistanceOf_17 rfl rfl ?_
    obtain ⟨j2, o3, o4, h⟩ := h
    obtain ⟨la5, o6, o7, h⟩ := h
    refine wp_rald (n := 24) dX1_resistanceOf_18 (sh1_K_layers hS) (sh1_N_layers hS) (by decide) o3 o4 o6 ?_
    refine wp_getR dX1_resistanceOf_19 fl_RX1_74 rfl (sh4_K o7) (sh4_F_inRing o7) ?_
    refine wp_iload_n 1 dX1_resistanceOf_22 rfl rfl ?_
    obtain ⟨j8, o9, o10, h⟩ := h
    refine wp_iald (n := 5) dX1_resistanceOf_23 (sh4_K_inRing o7) (sh4_N_inRing o7) (by decide) o9 o10 ?_
    refine wp_aload_n 0 dX1_resistanceOf_24 rfl rfl ?_
    refine wp_getR dX1_resistanceOf_25 fl_RX1_26 rfl (sh1_K hS) (sh1_F_layers hS) ?_
    refine wp_iload_n 3 dX1_resistanceOf_28 rfl rfl ?_
    obtain ⟨la11, o12, o13, h⟩ := h
    refine wp_rald (n := 24) dX1_resistanceOf_29 (sh1_K_layers hS) (sh1_N_layers hS) (by decide) o3 o4 o12 ?_
    refine wp_getI dX1_resistanceOf_30 fl_RX1_77 rfl (sh4_K o13) ?_
    refine wp_imul dX1_resistanceOf_33 ?_
    refine wp_iadd dX1_resistanceOf_34 ?_
    refine wp_topi (fun v14 ev14 => ?_)
    replace h := h v14 ev14
    refine wp_istore_n (lo2 := [(2, .int _), (0, .ref _), (1, .int _), (3, .int _)]) dX1_resistanceOf_35 rfl (by decide) rfl ?_
    refine wp_iinc (v := x3 + 1) (lo2 := [(3, .int _), (2, .int _), (0, .ref _), (1, .int _)]) dX1_resistanceOf_36 (q := 3) rfl rfl (by decide) rfl ?_
    refine wp_goto (tgt := 4) dX1_resistanceOf_39 (by decide) ?_
    exact Wp.sub [2, 3, 1, 0] rfl h
/-- the layers of the furnace at a: where they lie -/
def Lays (X : Sh) (M : Mm) (a nl : Nat) (la : Nat → Nat) : Prop := ∀ l, l < nl → mR M (a + 1) l = some (la l) ∧ Sh4 X (la l)
abbrev c_res (M : Mm) (la : Nat → Nat) (r nl : Nat) : Int32 := s_sum (fun l => mI M (la l + 1) r * mI M (la l) 3) 1 nl
theorem cl_X1_resistanceOf (G : Gl) (d : Nat) {X : Sh} {M : Mm} {a r nl : Nat} {la : Nat → Nat} {Q : Mm → Int32 → Prop} (hS : Sh1 X a) (hr : r < 5) (hn : mI M a 5 = nI nl) (hnl : nl ≤ 24) (hL : Lays X M a nl la) (hq : Q M (c_res M la r nl)) :
    ∀ n i : Nat, i + n = nl → Wn G m_X1_resistanceOf d 4 [(0, .ref a), (1, .int (nI r)), (2, .int (c_res M la r i)), (3, .int (nI i))] [] X M Q
  | 0, i, h => by
    have hi : i = nl := h
    subst hi
    exact bX1_resistanceOf_4 hS ⟨fun _ => hq, fun h => absurd (by rw [hn]; exact Int32.le_refl _) h⟩
  | n + 1, i, h => by
    obtain ⟨h1, h2⟩ := hL i (by omega)
    refine bX1_resistanceOf_4 hS ⟨fun h2 => ?_, fun _ => ⟨i, rfl, by omega, _, h1, h2, r, rfl, hr, _, h1, h2, ?_⟩⟩
    · rw [hn] at h2
      have := (nI_leI (by omega) (by omega)).mp h2
      omega
    · rintro v rfl
      rw [nI_1]
      exact cl_X1_resistanceOf G d hS hr hn hnl hL hq n (i + 1) (by omega)
theorem cp_X1_resistanceOf (G : Gl) (d : Nat) (X : Sh) (M : Mm) (a r nl : Nat) (la : Nat → Nat) (hS : Sh1 X a) (hr : r < 5) (hn : mI M a 5 = nI nl) (hnl : nl ≤ 24) (hL : Lays X M a nl la) : Cn G m_X1_resistanceOf d [.ref a, .int (nI r)] X M (fun M2 x => M2 = M ∧ x = c_res M la r nl) := by
  refine Cn.of (by decide) (Nat.le_of_ble_eq_true rfl) (bX1_resistanceOf_0 hS ?_)
  exact cl_X1_resistanceOf G d hS hr hn hnl hL ⟨rfl, rfl⟩ nl 0 (by omega)
theorem bX1_greatestRest_0 {G : Gl} {d : Nat} {X : Sh} {M : Mm} {Q : Mm → Int32 → Prop} {a : Nat} (hS : Sh1 X a) (h : Wn G m_X1_greatestRest d 4 [(0, .ref a), (1, .int 0), (2, .int 1)] [] X M Q) : Wn G m_X1_greatestRest d 0 [(0, .ref a)] [] X M Q := by
  refine wp_iconst (v := 0) dX1_greatestRest_0 rfl ?_
  refine wp_istore_n (lo2 := [(1, .int _), (0, .ref _)]) dX1_greatestRest_1 rfl (by decide) rfl ?_
  refine wp_iconst (v := 1) dX1_greatestRest_2 rfl ?_
  refine wp_istore_n (lo2 := [(2, .int _), (1, .int _), (0, .ref _)]) dX1_greatestRest_3 rfl (by decide) rfl ?_
  exact Wp.sub [2, 1, 0] rfl h
theorem bX1_greatestRest_4 {G : Gl} {d : Nat} {X : Sh} {M : Mm} {Q : Mm → Int32 → Prop} {a : Nat} {x1 : Int32} {x2 : Int32} (hS : Sh1 X a) (h : ((5 ≤ x2 → Q M x1) ∧ (¬ (5 ≤ x2) → (∃ j2 : Nat, x2 = nI j2 ∧ j2 < 5 ∧ (∃ j5 : Nat, x1 = nI j5 ∧ j5 < 5 ∧ (((lg_cmp (mJ M (a + 52) j2) (mJ M (a + 52) j5)) ≤ 0 → Wn G m_X1_greatestRest d 4 [(0, .ref a), (1, .int x1), (2, .int (x2 + 1))] [] X M Q) ∧ (¬ ((lg_cmp (mJ M (a + 52) j2) (mJ M (a + 52) j5)) ≤ 0) → Wn G m_X1_greatestRest d 4 [(0, .ref a), (1, .int x2), (2, .int (x2 + 1))] [] X M Q))))))) : Wn G m_X1_greatestRest d 4 [(0, .ref a), (1, .int x1), (2, .int x2)] [] X M Q := by
  refine wp_iload_n 2 dX1_greatestRest_4 rfl rfl ?_
  refine wp_iconst (v := 5) dX1_greatestRest_5 rfl ?_
  refine wp_icmp_ge (tgt := 33) dX1_greatestRest_6 (by decide) (fun c1 => ?_) (fun c1 => ?_)
  · replace h := h.1 c1
    refine wp_iload_n 1 dX1_greatestRest_33 rfl rfl ?_
    exact wn_iret dX1_greatestRest_34 rfl h
  · replace h := h.2 c1
    refine wp_aload_n 0 dX1_greatestRest_9 rfl rfl ?_
    refine wp_getR dX1_greatestRest_10 fl_RX1_41 rfl (sh1_K hS) (sh1_F_rests hS) ?_
    refine wp_iload_n 2 dX1_greatestRest_13 rfl rfl ?_
    obtain ⟨j2, o3, o4, h⟩ := h
    refine wp_lald (n := 5) dX1_greatestRest_14 (sh1_K_rests hS) (sh1_N_rests hS) (by decide) o3 o4 ?_
    refine wp_aload_n 0 dX1_greatestRest_15 rfl rfl ?_
    refine wp_getR dX1_greatestRest_16 fl_RX1_41 rfl (sh1_K hS) (sh1_F_rests hS) ?_
    refine wp_iload_n 1 dX1_greatestRest_19 rfl rfl ?_
    obtain ⟨j5, o6, o7, h⟩ := h
    refine wp_lald (n := 5) dX1_greatestRest_20 (sh1_K_rests hS) (sh1_N_rests hS) (by decide) o6 o7 ?_
    refine wp_lcmp dX1_greatestRest_21 ?_
    refine wp_if_le (tgt := 27) dX1_greatestRest_22 (by decide) (fun c8 => ?_) (fun c8 => ?_)
    · replace h := h.1 c8
      refine wp_iinc (v := x2 + 1) (lo2 := [(2, .int _), (0, .ref _), (1, .int _)]) dX1_greatestRest_27 (q := 2) rfl rfl (by decide) rfl ?_
      refine wp_goto (tgt := 4) dX1_greatestRest_30 (by decide) ?_
      exact Wp.sub [1, 2, 0] rfl h
    · replace h := h.2 c8
      refine wp_iload_n 2 dX1_greatestRest_25 rfl rfl ?_
      refine wp_istore_n (lo2 := [(1, .int _), (0, .ref _), (2, .int _)]) dX1_greatestRest_26 rfl (by decide) rfl ?_
      refine wp_iinc (v := x2 + 1) (lo2 := [(2, .int _), (1, .int _), (0, .ref _)]) dX1_greatestRest_27 (q := 2) rfl rfl (by decide) rfl ?_
      refine wp_goto (tgt := 4) dX1_greatestRest_30 (by decide) ?_
      exact Wp.sub [2, 1, 0] rfl h
theorem cl_X1_greatestRest (G : Gl) (d : Nat) {X : Sh} {M : Mm} {a : Nat} {Q : Mm → Int32 → Prop} (hS : Sh1 X a) (hq : Q M (nI (p_best (mJ M (a + 52)) 5))) :
    ∀ n i : Nat, i + n = 5 → 1 ≤ i → Wn G m_X1_greatestRest d 4 [(0, .ref a), (1, .int (nI (p_best (mJ M (a + 52)) i))), (2, .int (nI i))] [] X M Q
  | 0, i, h, _ => by
    have hi : i = 5 := h
    subst hi
    exact bX1_greatestRest_4 hS ⟨fun _ => hq, fun h => absurd (by decide) h⟩
  | n + 1, i, h, h1 => by
    obtain ⟨i2, rfl⟩ : ∃ i2, i = i2 + 1 := ⟨i - 1, by omega⟩
    have hb := p_best_lt (mJ M (a + 52)) i2
    have ih := cl_X1_greatestRest G d hS hq n (i2 + 1 + 1) (by omega) (by omega)
    rw [← best_step] at ih
    refine bX1_greatestRest_4 hS ⟨fun h2 => absurd h2 (n5 (by omega)), fun _ => ⟨i2 + 1, rfl, by omega, _, rfl, by omega, fun h2 => ?_, fun h2 => ?_⟩⟩
    · rw [if_pos h2] at ih
      rw [nI_1]
      exact ih
    · rw [if_neg h2] at ih
      rw [nI_1]
      exact ih
theorem p_best_1 (q : Nat → Int64) : p_best q 1 = 0 := by
  have : p_best q 1 < 1 := p_best_lt q 0
  omega
theorem cp_X1_greatestRest (G : Gl) (d : Nat) (X : Sh) (M : Mm) (a : Nat) (hS : Sh1 X a) : Cn G m_X1_greatestRest d [.ref a] X M (fun M2 x => M2 = M ∧ x = nI (p_best (mJ M (a + 52)) 5)) := by
  refine Cn.of (by decide) (Nat.le_of_ble_eq_true rfl) (bX1_greatestRest_0 hS ?_)
  have h := cl_X1_greatestRest G d (M := M) hS (Q := fun M2 x => M2 = M ∧ x = nI (p_best (mJ M (a + 52)) 5)) ⟨rfl, rfl⟩ 4 1 (by omega) (by omega)
  rw [p_best_1] at h
  exact h
theorem bX1_partByWeights_0 {G : Gl} {d : Nat} {X : Sh} {M : Mm} {Q : Mm → Prop} {a : Nat} {x1 : Int32} (hS : Sh1 X a) (h : Wv G m_X1_partByWeights (d + 1) 5 [(0, .ref a), (1, .int x1), (2, .long 0), (4, .int 0)] [] X M Q) : Wv G m_X1_partByWeights (d + 1) 0 [(0, .ref a), (1, .int x1)] [] X M Q := by
  refine wp_lconst (v := 0) dX1_partByWeights_0 rfl ?_
  refine wp_lstore_n (lo2 := [(2, .long _), (0, .ref _), (1, .int _)]) dX1_partByWeights_1 rfl (by decide) rfl ?_
  refine wp_iconst (v := 0) dX1_partByWeights_2 rfl ?_
  refine wp_istore (lo2 := [(4, .int _), (2, .long _), (0, .ref _), (1, .int _)]) dX1_partByWeights_3 (by decide) rfl ?_
  exact Wp.sub [2, 3, 1, 0] rfl h
theorem bX1_partByWeights_5 {G : Gl} {d : Nat} {X : Sh} {M : Mm} {Q : Mm → Prop} {a : Nat} {x1 : Int32} {x2 : Int64} {x4 : Int32} (hS : Sh1 X a) (h : ((5 ≤ x4 → ((0 < (lg_cmp x2 0) → Wv G m_X1_partByWeights (d + 1) 49 [(0, .ref a), (1, .int x1), (2, .long x2), (4, .int x1), (5, .int 0)] [] X M Q) ∧ (¬ (0 < (lg_cmp x2 0)) → Q M))) ∧ (¬ (5 ≤ x4) → (∃ j3 : Nat, x4 = nI j3 ∧ j3 < 5 ∧ (∀ w6 : Int64, w6 = (x2 + (mI M (a + 51) j3).toInt64) → (∀ M7 : Mm, M7 = sI M (a + 53) j3 0 → Wv G m_X1_partByWeights (d + 1) 5 [(0, .ref a), (1, .int x1), (2, .long w6), (4, .int (x4 + 1))] [] X M7 Q)))))) : Wv G m_X1_partByWeights (d + 1) 5 [(0, .ref a), (1, .int x1), (2, .long x2), (4, .int x4)] [] X M Q := by
  refine wp_iload 3 dX1_partByWeights_5 rfl ?_
  refine wp_iconst (v := 5) dX1_partByWeights_7 rfl ?_
  refine wp_icmp_ge (tgt := 36) dX1_partByWeights_8 (by decide) (fun c1 => ?_) (fun c1 => ?_)
  · replace h := h.1 c1
    refine wp_lload_n 2 dX1_partByWeights_36 rfl rfl ?_
    refine wp_lconst (v := 0) dX1_partByWeights_37 rfl ?_
    refine wp_lcmp dX1_partByWeights_38 ?_
    refine wp_if_gt (tgt := 43) dX1_partByWeights_39 (by decide) (fun c2 => ?_) (fun c2 => ?_)
    · replace h := h.1 c2
      refine wp_iload_n 1 dX1_partByWeights_43 rfl rfl ?_
      refine wp_istore (lo2 := [(4, .int _), (0, .ref _), (1, .int _), (2, .long _)]) dX1_partByWeights_44 (by decide) rfl ?_
      refine wp_iconst (v := 0) dX1_partByWeights_46 rfl ?_
      refine wp_istore (lo2 := [(5, .int _), (4, .int _), (0, .ref _), (1, .int _), (2, .long _)]) dX1_partByWeights_47 (by decide) rfl ?_
      exact Wp.sub [2, 3, 4, 1, 0] rfl h
    · replace h := h.2 c2
      exact wv_ret dX1_partByWeights_42 rfl h
  · replace h := h.2 c1
    refine wp_lload_n 2 dX1_partByWeights_11 rfl rfl ?_
    refine wp_aload_n 0 dX1_partByWeights_12 rfl rfl ?_
    refine wp_getR dX1_partByWeights_13 fl_RX1_38 rfl (sh1_K hS) (sh1_F_weights hS) ?_
    refine wp_iload 3 dX1_partByWeights_16 rfl ?_
    obtain ⟨j3, o4, o5, h⟩ := h
    refine wp_iald (n := 5) dX1_partByWeights_18 (sh1_K_weights hS) (sh1_N_weights hS) (by decide) o4 o5 ?_
    refine wp_i2l dX1_partByWeights_19 ?_
    refine wp_ladd dX1_partByWeights_20 ?_
    refine wp_topl (fun w6 ew6 => ?_)
    replace h := h w6 ew6
    refine wp_lstore_n (lo2 := [(2, .long _), (0, .ref _), (1, .int _), (4, .int _)]) dX1_partByWeights_21 rfl (by decide) rfl ?_
    refine wp_aload_n 1 dX1_partByWeights_22 rfl rfl ?_
    refine wp_getR dX1_partByWeights_23 fl_RX1_45 rfl (sh1_K hS) (sh1_F_parts hS) ?_
    refine wp_iload 3 dX1_partByWeights_26 rfl ?_
    refine wp_iconst (v := 0) dX1_partByWeights_28 rfl ?_
    refine wp_iast (n := 5) dX1_partByWeights_29 (sh1_K_parts hS) (sh1_N_parts hS) (by decide) o4 o5 ?_
    refine wp_nm (fun M7 eM7 => ?_)
    replace h := h M7 eM7
    refine wp_iinc (v := x4 + 1) (lo2 := [(4, .int _), (2, .long _), (0, .ref _), (1, .int _)]) dX1_partByWeights_30 (q := 3) rfl rfl (by decide) rfl ?_
    refine wp_goto (tgt := 5) dX1_partByWeights_33 (by decide) ?_
    exact Wp.sub [2, 3, 1, 0] rfl h
theorem bX1_partByWeights_49 {G : Gl} {d : Nat} {X : Sh} {M : Mm} {Q : Mm → Prop} {a : Nat} {x1 : Int32} {x2 : Int64} {x4 : Int32} {x5 : Int32} (hS : Sh1 X a) (h : ((5 ≤ x5 → Wv G m_X1_partByWeights (d + 1) 112 [(0, .ref a), (4, .int x4), (5, .int 0)] [] X M Q) ∧ (¬ (5 ≤ x5) → (∃ j2 : Nat, x5 = nI j2 ∧ j2 < 5 ∧ (∀ w5 : Int64, w5 = (x1.toInt64 * (mI M (a + 51) j2).toInt64) → (¬ (x2 = 0) ∧ (∀ M7 : Mm, M7 = sI M (a + 53) j2 ((w5 / x2).toInt32) → (¬ (x2 = 0) ∧ (∀ M9 : Mm, M9 = sJ M7 (a + 52) j2 (w5 - w5 / x2 * x2) → (∀ v10 : Int32, v10 = (x4 - (mI M9 (a + 53) j2)) → Wv G m_X1_partByWeights (d + 1) 49 [(0, .ref a), (1, .int x1), (2, .long x2), (4, .int v10), (5, .int (x5 + 1))] [] X M9 Q)))))))))) : Wv G m_X1_partByWeights (d + 1) 49 [(0, .ref a), (1, .int x1), (2, .long x2), (4, .int x4), (5, .int x5)] [] X M Q := by
  refine wp_iload 4 dX1_partByWeights_49 rfl ?_
  refine wp_iconst (v := 5) dX1_partByWeights_51 rfl ?_
  refine wp_icmp_ge (tgt := 109) dX1_partByWeights_52 (by decide) (fun c1 => ?_) (fun c1 => ?_)
  · replace h := h.1 c1
    refine wp_iconst (v := 0) dX1_partByWeights_109 rfl ?_
    refine wp_istore (lo2 := [(5, .int _), (0, .ref _), (1, .int _), (2, .long _), (4, .int _)]) dX1_partByWeights_110 (by decide) rfl ?_
    exact Wp.sub [1, 4, 0] rfl h
  · replace h := h.2 c1
    refine wp_iload_n 1 dX1_partByWeights_55 rfl rfl ?_
    refine wp_i2l dX1_partByWeights_56 ?_
    refine wp_aload_n 0 dX1_partByWeights_57 rfl rfl ?_
    refine wp_getR dX1_partByWeights_58 fl_RX1_38 rfl (sh1_K hS) (sh1_F_weights hS) ?_
    refine wp_iload 4 dX1_partByWeights_61 rfl ?_
    obtain ⟨j2, o3, o4, h⟩ := h
    refine wp_iald (n := 5) dX1_partByWeights_63 (sh1_K_weights hS) (sh1_N_weights hS) (by decide) o3 o4 ?_
    refine wp_i2l dX1_partByWeights_64 ?_
    refine wp_lmul dX1_partByWeights_65 ?_
    refine wp_topl (fun w5 ew5 => ?_)
    replace h := h w5 ew5
    refine wp_lstore (lo2 := [(6, .long _), (0, .ref _), (1, .int _), (2, .long _), (4, .int _), (5, .int _)]) dX1_partByWeights_66 (by decide) rfl ?_
    refine wp_aload_n 1 dX1_partByWeights_68 rfl rfl ?_
    refine wp_getR dX1_partByWeights_69 fl_RX1_45 rfl (sh1_K hS) (sh1_F_parts hS) ?_
    refine wp_iload 5 dX1_partByWeights_72 rfl ?_
    refine wp_lload 0 dX1_partByWeights_74 rfl ?_
    refine wp_lload_n 3 dX1_partByWeights_76 rfl rfl ?_
    obtain ⟨o6, h⟩ := h
    refine wp_ldiv dX1_partByWeights_77 o6 ?_
    refine wp_l2i dX1_partByWeights_78 ?_
    refine wp_iast (n := 5) dX1_partByWeights_79 (sh1_K_parts hS) (sh1_N_parts hS) (by decide) o3 o4 ?_
    refine wp_nm (fun M7 eM7 => ?_)
    replace h := h M7 eM7
    refine wp_aload_n 1 dX1_partByWeights_80 rfl rfl ?_
    refine wp_getR dX1_partByWeights_81 fl_RX1_41 rfl (sh1_K hS) (sh1_F_rests hS) ?_
    refine wp_iload 5 dX1_partByWeights_84 rfl ?_
    refine wp_lload 0 dX1_partByWeights_86 rfl ?_
    refine wp_lload_n 3 dX1_partByWeights_88 rfl rfl ?_
    obtain ⟨o8, h⟩ := h
    refine wp_lrem dX1_partByWeights_89 o8 ?_
    refine wp_last (n := 5) dX1_partByWeights_90 (sh1_K_rests hS) (sh1_N_rests hS) (by decide) o3 o4 ?_
    refine wp_nm (fun M9 eM9 => ?_)
    replace h := h M9 eM9
    refine wp_iload 4 dX1_partByWeights_91 rfl ?_
    refine wp_aload_n 1 dX1_partByWeights_93 rfl rfl ?_
    refine wp_getR dX1_partByWeights_94 fl_RX1_45 rfl (sh1_K hS) (sh1_F_parts hS) ?_
    refine wp_iload 5 dX1_partByWeights_97 rfl ?_
    refine wp_iald (n := 5) dX1_partByWeights_99 (sh1_K_parts hS) (sh1_N_parts hS) (by decide) o3 o4 ?_
    refine wp_isub dX1_partByWeights_100 ?_
    refine wp_topi (fun v10 ev10 => ?_)
    replace h := h v10 ev10
    refine wp_istore (lo2 := [(4, .int _), (6, .long _), (0, .ref _), (1, .int _), (2, .long _), (5, .int _)]) dX1_partByWeights_101 (by decide) rfl ?_
    refine wp_iinc (v := x5 + 1) (lo2 := [(5, .int _), (4, .int _), (6, .long _), (0, .ref _), (1, .int _), (2, .long _)]) dX1_partByWeights_103 (q := 5) rfl rfl (by decide) rfl ?_
    refine wp_goto (tgt := 49) dX1_partByWeights_106 (by decide) ?_
    exact Wp.sub [3, 4, 5, 1, 0] rfl h
theorem bX1_partByWeights_112 {G : Gl} {d : Nat} {X : Sh} {M : Mm} {Q : Mm → Prop} {a : Nat} {x4 : Int32} {x5 : Int32} (hS : Sh1 X a) (h : ((x4 ≤ x5 → Q M) ∧ (¬ (x4 ≤ x5) → ((5 ≤ x5 → Q M) ∧ (¬ (5 ≤ x5) → (∃ q3 : Mm → Int32 → Prop, Cn G m_X1_greatestRest d [.ref a] X M q3 ∧ ∀ M5 r6, q3 M5 r6 → (∃ j8 : Nat, r6 = nI j8 ∧ j8 < 5 ∧ (∀ M11 : Mm, M11 = sI M5 (a + 53) j8 ((mI M5 (a + 53) j8) + 1) → (∀ M12 : Mm, M12 = sJ M11 (a + 52) j8 (-1) → Wv G m_X1_partByWeights (d + 1) 112 [(0, .ref a), (4, .int x4), (5, .int (x5 + 1))] [] X M12 Q))))))))) : Wv G m_X1_partByWeights (d + 1) 112 [(0, .ref a), (4, .int x4), (5, .int x5)] [] X M Q := by
  refine wp_iload 2 dX1_partByWeights_112 rfl ?_
  refine wp_iload 1 dX1_partByWeights_114 rfl ?_
  refine wp_icmp_ge (tgt := 158) dX1_partByWeights_116 (by decide) (fun c1 => ?_) (fun c1 => ?_)
  · replace h := h.1 c1
    exact wv_ret dX1_partByWeights_158 rfl h
  · replace h := h.2 c1
    refine wp_iload 2 dX1_partByWeights_119 rfl ?_
    refine wp_iconst (v := 5) dX1_partByWeights_121 rfl ?_
    refine wp_icmp_ge (tgt := 158) dX1_partByWeights_122 (by decide) (fun c2 => ?_) (fun c2 => ?_)
    · replace h := h.1 c2
      exact wv_ret dX1_partByWeights_158 rfl h
    · replace h := h.2 c2
      refine wp_aload_n 0 dX1_partByWeights_125 rfl rfl ?_
      obtain ⟨q3, o4, h⟩ := h
      refine wp_cvi dX1_partByWeights_126 ck_RX1_80 (sh1_K hS) (as := []) rfl rfl (Nat.le_of_ble_eq_true rfl) o4 (fun M5 r6 o7 => ?_)
      replace h := h M5 r6 o7
      refine wp_istore (lo2 := [(6, .int _), (0, .ref _), (4, .int _), (5, .int _)]) dX1_partByWeights_129 (by decide) rfl ?_
      refine wp_aload_n 1 dX1_partByWeights_131 rfl rfl ?_
      refine wp_getR dX1_partByWeights_132 fl_RX1_45 rfl (sh1_K hS) (sh1_F_parts hS) ?_
      refine wp_iload 0 dX1_partByWeights_135 rfl ?_
      refine wp_dup2_11 dX1_partByWeights_137 rfl rfl ?_
      obtain ⟨j8, o9, o10, h⟩ := h
      refine wp_iald (n := 5) dX1_partByWeights_138 (sh1_K_parts hS) (sh1_N_parts hS) (by decide) o9 o10 ?_
      refine wp_iconst (v := 1) dX1_partByWeights_139 rfl ?_
      refine wp_iadd dX1_partByWeights_140 ?_
      refine wp_iast (n := 5) dX1_partByWeights_141 (sh1_K_parts hS) (sh1_N_parts hS) (by decide) o9 o10 ?_
      refine wp_nm (fun M11 eM11 => ?_)
      replace h := h M11 eM11
      refine wp_aload_n 1 dX1_partByWeights_142 rfl rfl ?_
      refine wp_getR dX1_partByWeights_143 fl_RX1_41 rfl (sh1_K hS) (sh1_F_rests hS) ?_
      refine wp_iload 0 dX1_partByWeights_146 rfl ?_
      refine wp_ldc2 dX1_partByWeights_148 kc_RX1_84 ?_
      refine wp_last (n := 5) dX1_partByWeights_151 (sh1_K_rests hS) (sh1_N_rests hS) (by decide) o9 o10 ?_
      refine wp_nm (fun M12 eM12 => ?_)
      replace h := h M12 eM12
      refine wp_iinc (v := x5 + 1) (lo2 := [(5, .int _), (6, .int _), (0, .ref _), (4, .int _)]) dX1_partByWeights_152 (q := 3) rfl rfl (by decide) rfl ?_
      refine wp_goto (tgt := 112) dX1_partByWeights_155 (by decide) ?_
      exact Wp.sub [2, 3, 0] rfl h
/-- what the class's parting leaves: the parts' row, all else but longs as it was -/
def CPartQ (M : Mm) (a : Nat) (p : Nat → Int32) (M2 : Mm) : Prop := (∀ r, r < 5 → mI M2 (a + 53) r = p r) ∧ (∀ b, b ≠ a + 53 → mI M2 b = mI M b) ∧ mR M2 = mR M
theorem lg_pos {x : Int64} : 0 < lg_cmp x 0 ↔ ¬ x ≤ 0 := by
  constructor
  · intro h h2
    exact i_nlt.mpr ((lg_cmp_le _ _).mpr h2) h
  · intro h
    exact i_nle.mp (fun h2 => h ((lg_cmp_le _ _).mp h2))
theorem cl_cpart_112 (G : Gl) (d : Nat) {X : Sh} {a k : Nat} {Q : Mm → Prop} (hS : Sh1 X a) (hk : k ≤ 5) (M0 : Mm) : ∀ (n i : Nat) (M : Mm), i + n = k → (∀ b, b ≠ a + 53 → mI M b = mI M0 b) → mR M = mR M0 →
    (∀ M2, CPartQ M0 a (p_give (mI M (a + 53)) (mJ M (a + 52)) n) M2 → Q M2) → Wv G m_X1_partByWeights (d + 1) 112 [(0, .ref a), (4, .int (nI k)), (5, .int (nI i))] [] X M Q
  | 0, i, M, h, h1, h2, hq => by
    have hi : i = k := h
    subst hi
    exact bX1_partByWeights_112 hS ⟨fun _ => hq M ⟨fun _ _ => rfl, h1, h2⟩, fun h => absurd (Int32.le_refl _) h⟩
  | n + 1, i, M, h, h1, h2, hq => by
    have hb := p_best_lt (mJ M (a + 52)) 4
    refine bX1_partByWeights_112 hS ⟨fun h3 => ?_, fun _ => ⟨fun h3 => absurd h3 (n5 (by omega)), fun _ => ⟨_, cp_X1_greatestRest G d X M a hS, ?_⟩⟩⟩
    · have := (nI_leI (by omega) (by omega)).mp h3
      omega
    · rintro M5 _ ⟨e, rfl⟩
      have e := e.symm
      subst e
      refine ⟨_, rfl, hb, ?_⟩
      rintro M11 rfl M12 rfl
      rw [nI_1]
      refine cl_cpart_112 G d hS hk M0 n (i + 1) _ (by omega) (fun b hb => ?_) h2 (fun M2 h4 => hq M2 ?_)
      · rw [mI_sJ, mI_sI, up2_off _ _ _ hb]
        exact h1 b hb
      · rw [mI_sJ, mI_sI, mJ_sJ, mJ_sI, up2_row, up2_rowL] at h4
        exact h4
theorem cl_cpart_49 (G : Gl) (d : Nat) {X : Sh} {a k : Nat} {Q : Mm → Prop} {x1 : Int32} {w : Nat → Int64} (hS : Sh1 X a) (M0 : Mm) (hA : ¬ s_sumL w 5 = 0) (hk : k ≤ 5) (hl : p_left x1 w (s_sumL w 5) 5 = nI k)
    (hq : ∀ M2, CPartQ M0 a (s_parts x1 w) M2 → Q M2) : ∀ (n i : Nat) (M : Mm), i + n = 5 → (∀ r, r < 5 → (mI M (a + 51) r).toInt64 = w r) → (∀ r, r < i → mI M (a + 53) r = p_base x1 w (s_sumL w 5) r) → (∀ r, r < i → mJ M (a + 52) r = p_rest x1 w (s_sumL w 5) r) → (∀ b, b ≠ a + 53 → mI M b = mI M0 b) → mR M = mR M0 →
    Wv G m_X1_partByWeights (d + 1) 49 [(0, .ref a), (1, .int x1), (2, .long (s_sumL w 5)), (4, .int (p_left x1 w (s_sumL w 5) i)), (5, .int (nI i))] [] X M Q
  | 0, i, M, h, hw, hp, hr, h1, h2 => by
    have hi : i = 5 := h
    subst hi
    refine bX1_partByWeights_49 hS ⟨fun _ => ?_, fun h => absurd (by decide) h⟩
    have hq2 : ∀ M2, CPartQ M0 a (p_give (mI M (a + 53)) (mJ M (a + 52)) k) M2 → Q M2 := fun M2 h4 => hq M2 ⟨fun r hr5 => by
      rw [h4.1 r hr5]
      unfold s_parts
      rw [if_neg hA, hl, nI_clamp (by omega)]
      exact p_give_cong _ hp hr r hr5, h4.2⟩
    rw [hl]
    exact cl_cpart_112 G d hS hk M0 k 0 M (by omega) h1 h2 hq2
  | n + 1, i, M, h, hw, hp, hr, h1, h2 => by
    refine bX1_partByWeights_49 hS ⟨fun h2 => absurd h2 (n5 (by omega)), fun _ => ⟨i, rfl, by omega, ?_⟩⟩
    rintro w5 rfl
    refine ⟨hA, ?_⟩
    rintro M6 rfl
    refine ⟨hA, ?_⟩
    rintro M8 rfl
    rintro v9 rfl
    rw [nI_1]
    rw [mI_sJ, mI_sI, up2_same, hw i (by omega)]
    refine cl_cpart_49 G d hS M0 hA hk hl hq n (i + 1) _ (by omega) (fun r hr5 => ?_) (fun r hri => ?_) (fun r hri => ?_) (fun b hb => ?_) h2
    · rw [mI_sJ, mI_sI, up2_off _ _ _ (by omega), hw r hr5]
    · rw [mI_sJ, mI_sI]
      by_cases hri2 : r = i
      · subst hri2
        rw [up2_same]
        rfl
      · rw [up2_k _ _ _ hri2]
        exact hp r (by omega)
    · rw [mJ_sJ, mJ_sI]
      by_cases hri2 : r = i
      · subst hri2
        rw [up2_same]
        rfl
      · rw [up2_k _ _ _ hri2]
        exact hr r (by omega)
    · rw [mI_sJ, mI_sI, up2_off _ _ _ hb]
      exact h1 b hb
/-- the weights are not below naught, and at most five are left over by the whole parts -/
def FairW (x : Int32) (w : Nat → Int64) : Prop := s_sumL w 5 = 0 ∨ (¬ s_sumL w 5 ≤ 0 ∧ ∃ k, k ≤ 5 ∧ p_left x w (s_sumL w 5) 5 = nI k)
theorem cl_cpart_5 (G : Gl) (d : Nat) {X : Sh} {a : Nat} {Q : Mm → Prop} {x1 : Int32} {w : Nat → Int64} (hS : Sh1 X a) (M0 : Mm) (hF : FairW x1 w)
    (hq : ∀ M2, CPartQ M0 a (s_parts x1 w) M2 → Q M2) : ∀ (n i : Nat) (M : Mm), i + n = 5 → (∀ r, r < 5 → (mI M (a + 51) r).toInt64 = w r) → (∀ r, r < i → mI M (a + 53) r = 0) → (∀ b, b ≠ a + 53 → mI M b = mI M0 b) → mR M = mR M0 →
    Wv G m_X1_partByWeights (d + 1) 5 [(0, .ref a), (1, .int x1), (2, .long (s_sumL w i)), (4, .int (nI i))] [] X M Q
  | 0, i, M, h, hw, hp, h1, h2 => by
    have hi : i = 5 := h
    subst hi
    refine bX1_partByWeights_5 hS ⟨fun _ => ⟨fun h3 => ?_, fun h3 => ?_⟩, fun h => absurd (by decide) h⟩
    · rcases hF with hF | ⟨hF, k, hk, hl⟩
      · rw [hF] at h3
        exact absurd h3 (by decide)
      · have hA : ¬ s_sumL w 5 = 0 := fun h4 => by
          rw [h4] at hF
          exact hF (by decide)
        exact cl_cpart_49 G d hS M0 hA hk hl hq 5 0 M rfl hw (fun r hr => absurd hr (by omega)) (fun r hr => absurd hr (by omega)) h1 h2
    · have h4 : s_sumL w 5 = 0 := by
        rcases hF with hF | ⟨hF, _⟩
        · exact hF
        · exact absurd (lg_pos.mpr hF) h3
      refine hq M ⟨fun r hr => ?_, h1, h2⟩
      rw [hp r hr]
      unfold s_parts
      rw [if_pos h4]
  | n + 1, i, M, h, hw, hp, h1, h2 => by
    refine bX1_partByWeights_5 hS ⟨fun h2 => absurd h2 (n5 (by omega)), fun _ => ⟨i, rfl, by omega, ?_⟩⟩
    rintro w6 rfl M7 rfl
    rw [nI_1, hw i (by omega)]
    refine cl_cpart_5 G d hS M0 hF hq n (i + 1) _ (by omega) (fun r hr5 => ?_) (fun r hri => ?_) (fun b hb => ?_) h2
    · rw [mI_sI, up2_off _ _ _ (by omega)]
      exact hw r hr5
    · rw [mI_sI]
      by_cases hri2 : r = i
      · subst hri2
        rw [up2_same]
      · rw [up2_k _ _ _ hri2]
        exact hp r (by omega)
    · rw [mI_sI, up2_off _ _ _ hb]
      exact h1 b hb
theorem cp_X1_partByWeights (G : Gl) (d : Nat) (hd : 1 ≤ d) (X : Sh) (M : Mm) (a : Nat) (x : Int32) (w : Nat → Int64) (hS : Sh1 X a) (hw : ∀ r, r < 5 → (mI M (a + 51) r).toInt64 = w r) (hF : FairW x w) : Cv G m_X1_partByWeights d [.ref a, .int x] X M (CPartQ M a (s_parts x w)) := by
  obtain ⟨d, rfl⟩ : ∃ d1, d = d1 + 1 := ⟨d - 1, by omega⟩
  refine Cv.of (by decide) (Nat.le_of_ble_eq_true rfl) (bX1_partByWeights_0 hS ?_)
  exact cl_cpart_5 G d hS M hF (fun _ h => h) 5 0 M rfl hw (fun r hr => absurd hr (by omega)) (fun _ _ => rfl) rfl
theorem bX1_partGas_0 {G : Gl} {d : Nat} {X : Sh} {M : Mm} {Q : Mm → Prop} {a : Nat} {x1 : Int32} (hS : Sh1 X a) (h : Wv G m_X1_partGas (d + 1) 2 [(0, .ref a), (1, .int x1), (2, .int 0)] [] X M Q) : Wv G m_X1_partGas (d + 1) 0 [(0, .ref a), (1, .int x1)] [] X M Q := by
  refine wp_iconst (v := 0) dX1_partGas_0 rfl ?_
  refine wp_istore_n (lo2 := [(2, .int _), (0, .ref _), (1, .int _)]) dX1_partGas_1 rfl (by decide) rfl ?_
  exact Wp.sub [1, 2, 0] rfl h
theorem bX1_partGas_2 {G : Gl} {d : Nat} {X : Sh} {M : Mm} {Q : Mm → Prop} {a : Nat} {x1 : Int32} {x2 : Int32} (hS : Sh1 X a) (h : ((5 ≤ x2 → (∃ q2 : Mm → Prop, Cv G m_X1_partByWeights d [.ref a, .int x1] X M q2 ∧ ∀ M4, q2 M4 → Q M4)) ∧ (¬ (5 ≤ x2) → (∃ q6 : Mm → Int32 → Prop, Cn G m_X1_resistanceOf d [.ref a, .int x2] X M q6 ∧ ∀ M8 r9, q6 M8 r9 → ((1 ≤ r9 → (∃ j12 : Nat, x2 = nI j12 ∧ j12 < 5 ∧ (¬ (r9 = 0) ∧ (∀ M16 : Mm, M16 = sI M8 (a + 51) j12 (((areaV j12) * 100000) / r9) → Wv G m_X1_partGas (d + 1) 2 [(0, .ref a), (1, .int x1), (2, .int (x2 + 1))] [] X M16 Q)))) ∧ (¬ (1 ≤ r9) → (∃ j17 : Nat, x2 = nI j17 ∧ j17 < 5 ∧ (∀ M20 : Mm, M20 = sI M8 (a + 51) j17 0 → Wv G m_X1_partGas (d + 1) 2 [(0, .ref a), (1, .int x1), (2, .int (x2 + 1))] [] X M20 Q)))))))) : Wv G m_X1_partGas (d + 1) 2 [(0, .ref a), (1, .int x1), (2, .int x2)] [] X M Q := by
  refine wp_iload_n 2 dX1_partGas_2 rfl rfl ?_
  refine wp_iconst (v := 5) dX1_partGas_3 rfl ?_
  refine wp_icmp_ge (tgt := 44) dX1_partGas_4 (by decide) (fun c1 => ?_) (fun c1 => ?_)
  · replace h := h.1 c1
    refine wp_aload_n 0 dX1_partGas_44 rfl rfl ?_
    refine wp_iload_n 1 dX1_partGas_45 rfl rfl ?_
    obtain ⟨q2, o3, h⟩ := h
    refine wp_cvv dX1_partGas_46 ck_RX1_135 (sh1_K hS) (as := [.int x1]) rfl rfl (Nat.le_of_ble_eq_true rfl) o3 (fun M4 o5 => ?_)
    replace h := h M4 o5
    exact wv_ret dX1_partGas_49 rfl h
  · replace h := h.2 c1
    refine wp_aload_n 0 dX1_partGas_7 rfl rfl ?_
    refine wp_iload_n 2 dX1_partGas_8 rfl rfl ?_
    obtain ⟨q6, o7, h⟩ := h
    refine wp_cvi dX1_partGas_9 ck_RX1_146 (sh1_K hS) (as := [.int x2]) rfl rfl (Nat.le_of_ble_eq_true rfl) o7 (fun M8 r9 o10 => ?_)
    replace h := h M8 r9 o10
    refine wp_istore_n (lo2 := [(3, .int _), (0, .ref _), (1, .int _), (2, .int _)]) dX1_partGas_12 rfl (by decide) rfl ?_
    refine wp_aload_n 1 dX1_partGas_13 rfl rfl ?_
    refine wp_getR dX1_partGas_14 fl_RX1_38 rfl (sh1_K hS) (sh1_F_weights hS) ?_
    refine wp_iload_n 3 dX1_partGas_17 rfl rfl ?_
    refine wp_iload_n 0 dX1_partGas_18 rfl rfl ?_
    refine wp_iconst (v := 1) dX1_partGas_19 rfl ?_
    refine wp_icmp_ge (tgt := 27) dX1_partGas_20 (by decide) (fun c11 => ?_) (fun c11 => ?_)
    · replace h := h.1 c11
      refine wp_areas dX1_partGas_27 fs_RX1_58 ?_
      refine wp_iload_n 3 dX1_partGas_30 rfl rfl ?_
      obtain ⟨j12, o13, o14, h⟩ := h
      refine wp_areaAt dX1_partGas_31 o13 o14 ?_
      refine wp_ldc dX1_partGas_32 kc_RX1_149 ?_
      refine wp_imul dX1_partGas_34 ?_
      refine wp_iload_n 0 dX1_partGas_35 rfl rfl ?_
      obtain ⟨o15, h⟩ := h
      refine wp_idiv dX1_partGas_36 o15 ?_
      refine wp_iast (n := 5) dX1_partGas_37 (sh1_K_weights hS) (sh1_N_weights hS) (by decide) o13 o14 ?_
      refine wp_nm (fun M16 eM16 => ?_)
      replace h := h M16 eM16
      refine wp_iinc (v := x2 + 1) (lo2 := [(2, .int _), (3, .int _), (0, .ref _), (1, .int _)]) dX1_partGas_38 (q := 3) rfl rfl (by decide) rfl ?_
      refine wp_goto (tgt := 2) dX1_partGas_41 (by decide) ?_
      exact Wp.sub [2, 3, 0] rfl h
    · replace h := h.2 c11
      refine wp_iconst (v := 0) dX1_partGas_23 rfl ?_
      refine wp_goto (tgt := 37) dX1_partGas_24 (by decide) ?_
      obtain ⟨j17, o18, o19, h⟩ := h
      refine wp_iast (n := 5) dX1_partGas_37 (sh1_K_weights hS) (sh1_N_weights hS) (by decide) o18 o19 ?_
      refine wp_nm (fun M20 eM20 => ?_)
      replace h := h M20 eM20
      refine wp_iinc (v := x2 + 1) (lo2 := [(2, .int _), (3, .int _), (0, .ref _), (1, .int _)]) dX1_partGas_38 (q := 3) rfl rfl (by decide) rfl ?_
      refine wp_goto (tgt := 2) dX1_partGas_41 (by decide) ?_
      exact Wp.sub [2, 3, 0] rfl h
/-- what the class's parting of the gas leaves: the parts' row; but the weights' row and longs all else as it was -/
def CGasQ (M : Mm) (a : Nat) (p : Nat → Int32) (M2 : Mm) : Prop := (∀ r, r < 5 → mI M2 (a + 53) r = p r) ∧ (∀ b, b ≠ a + 53 → b ≠ a + 51 → mI M2 b = mI M b) ∧ mR M2 = mR M
theorem cl_X1_partGas (G : Gl) (d : Nat) (hd : 1 ≤ d) {X : Sh} {a nl : Nat} {la : Nat → Nat} {Q : Mm → Prop} {x1 : Int32} {w : Nat → Int64} (hS : Sh1 X a) (M0 : Mm) (hn : mI M0 a 5 = nI nl) (hnl : nl ≤ 24) (hL : Lays X M0 a nl la) (hla : ∀ l, l < nl → la l ≠ a + 51 ∧ la l + 1 ≠ a + 51)
    (h1 : ∀ r, r < 5 → 1 ≤ c_res M0 la r nl) (hw : ∀ r, r < 5 → w r = (areaV r * 100000 / c_res M0 la r nl).toInt64) (hF : FairW x1 w) (hq : ∀ M2, CGasQ M0 a (s_parts x1 w) M2 → Q M2) :
    ∀ (n i : Nat) (M : Mm), i + n = 5 → (∀ r, r < i → (mI M (a + 51) r).toInt64 = w r) → (∀ b, b ≠ a + 51 → mI M b = mI M0 b) → mR M = mR M0 → Wv G m_X1_partGas (d + 1) 2 [(0, .ref a), (1, .int x1), (2, .int (nI i))] [] X M Q
  | 0, i, M, h, hp, h2, h3 => by
    have hi : i = 5 := h
    subst hi
    refine bX1_partGas_2 hS ⟨fun _ => ⟨_, cp_X1_partByWeights G d hd X M a x1 w hS hp hF, ?_⟩, fun h => absurd (by decide) h⟩
    intro M4 h4
    exact hq M4 ⟨h4.1, fun b hb hb2 => (h4.2.1 b hb).trans (h2 b hb2), h4.2.2.trans h3⟩
  | n + 1, i, M, h, hp, h2, h3 => by
    have hL2 : Lays X M a nl la := fun l hl => by
      rw [h3]
      exact hL l hl
    have er : c_res M la i nl = c_res M0 la i nl := s_sum_cong (fun k hk => by rw [h2 _ (hla k hk).1, h2 _ (hla k hk).2])
    refine bX1_partGas_2 hS ⟨fun h2 => absurd h2 (n5 (by omega)), fun _ => ⟨_, cp_X1_resistanceOf G d X M a i nl la hS (by omega) (by rw [h2 _ (by omega)]; exact hn) hnl hL2, ?_⟩⟩
    rintro M5 _ ⟨e, rfl⟩
    have e := e.symm
    subst e
    rw [er]
    have h5 := h1 i (by omega)
    refine ⟨fun _ => ⟨i, rfl, by omega, fun h6 => ?_, ?_⟩, fun h6 => absurd h5 h6⟩
    · rw [h6] at h5
      exact absurd h5 (by decide)
    · rintro M16 rfl
      rw [nI_1]
      refine cl_X1_partGas G d hd hS M0 hn hnl hL hla h1 hw hF hq n (i + 1) _ (by omega) (fun r hri => ?_) (fun b hb => ?_) h3
      · rw [mI_sI]
        by_cases hri2 : r = i
        · subst hri2
          rw [up2_same, hw r (by omega)]
        · rw [up2_k _ _ _ hri2]
          exact hp r (by omega)
      · rw [mI_sI, up2_off _ _ _ hb]
        exact h2 b hb
theorem cp_X1_partGas (G : Gl) (d : Nat) (hd : 2 ≤ d) (X : Sh) (M : Mm) (a nl : Nat) (la : Nat → Nat) (x1 : Int32) (w : Nat → Int64) (hS : Sh1 X a) (hn : mI M a 5 = nI nl) (hnl : nl ≤ 24) (hL : Lays X M a nl la) (hla : ∀ l, l < nl → la l ≠ a + 51 ∧ la l + 1 ≠ a + 51)
    (h1 : ∀ r, r < 5 → 1 ≤ c_res M la r nl) (hw : ∀ r, r < 5 → w r = (areaV r * 100000 / c_res M la r nl).toInt64) (hF : FairW x1 w) : Cv G m_X1_partGas d [.ref a, .int x1] X M (CGasQ M a (s_parts x1 w)) := by
  obtain ⟨d, rfl⟩ : ∃ d1, d = d1 + 1 := ⟨d - 1, by omega⟩
  refine Cv.of (by decide) (Nat.le_of_ble_eq_true rfl) (bX1_partGas_0 hS ?_)
  exact cl_X1_partGas G d (by omega) hS M hn hnl hL hla h1 hw hF (fun _ h => h) 5 0 M rfl (fun r hr => absurd hr (by omega)) (fun _ _ => rfl) rfl
