/-! the class's furnace: a layer slides, a charge comes -/
theorem bX1_slidesOnce_0 {G : Gl} {d : Nat} {X : Sh} {M : Mm} {Q : Mm → Int32 → Prop} {a : Nat} {b1 : Nat} {x2 : Int32} (hS : Sh1 X a) (hS1 : Sh4 X b1) (h : Wn G m_X1_slidesOnce (d + 1) 2 [(0, .ref a), (1, .ref b1), (2, .int x2), (3, .int 0)] [] X M Q) : Wn G m_X1_slidesOnce (d + 1) 0 [(0, .ref a), (1, .ref b1), (2, .int x2)] [] X M Q := by
  refine wp_iconst (v := 0) dX1_slidesOnce_0 rfl ?_
  refine wp_istore_n (lo2 := [(3, .int _), (0, .ref _), (1, .ref _), (2, .int _)]) dX1_slidesOnce_1 rfl (by decide) rfl ?_
  exact Wp.sub [1, 2, 3, 0] rfl h
theorem bX1_slidesOnce_2 {G : Gl} {d : Nat} {X : Sh} {M : Mm} {Q : Mm → Int32 → Prop} {a : Nat} {b1 : Nat} {x2 : Int32} {x3 : Int32} (hS : Sh1 X a) (hS1 : Sh4 X b1) (h : ((4 ≤ x3 → Q M 0) ∧ (¬ (4 ≤ x3) → (∃ q2 : Mm → Int32 → Prop, Cn G m_X1_topOf d [.ref a, .int x3] X M q2 ∧ ∀ M4 r5, q2 M4 r5 → (∃ q7 : Mm → Int32 → Prop, Cn G m_X1_topOf d [.ref a, .int ((x3 + 1))] X M4 q7 ∧ ∀ M9 r10, q7 M9 r10 → (∀ v12 : Int32, v12 = (r5 - r10) → (∀ v15 : Int32, v15 = (if v12 ≤ 0 then (x3 + 1) else x3) → (∀ v18 : Int32, v18 = (if v12 ≤ 0 then x3 else (x3 + 1)) → (((if 0 ≤ v12 then v12 else 0 - v12) ≤ x2 → Wn G m_X1_slidesOnce (d + 1) 2 [(0, .ref a), (1, .ref b1), (2, .int x2), (3, .int (x3 + 1))] [] X M9 Q) ∧ (¬ ((if 0 ≤ v12 then v12 else 0 - v12) ≤ x2) → (∃ j20 : Nat, v15 = nI j20 ∧ j20 < 5 ∧ (((mI M9 (b1 + 1) j20) ≤ 0 → Wn G m_X1_slidesOnce (d + 1) 2 [(0, .ref a), (1, .ref b1), (2, .int x2), (3, .int (x3 + 1))] [] X M9 Q) ∧ (¬ ((mI M9 (b1 + 1) j20) ≤ 0) → (∀ M24 : Mm, M24 = sI M9 (b1 + 1) j20 ((mI M9 (b1 + 1) j20) - 1) → (∀ M25 : Mm, M25 = sI M24 (a + 50) j20 ((mI M24 (a + 50) j20) - 1) → (∃ j26 : Nat, v18 = nI j26 ∧ j26 < 5 ∧ (∀ M29 : Mm, M29 = sI M25 (b1 + 1) j26 ((mI M25 (b1 + 1) j26) + 1) → (∀ M30 : Mm, M30 = sI M29 (a + 50) j26 ((mI M29 (a + 50) j26) + 1) → Q M30 1)))))))))))))))))) : Wn G m_X1_slidesOnce (d + 1) 2 [(0, .ref a), (1, .ref b1), (2, .int x2), (3, .int x3)] [] X M Q := by
  refine wp_iload_n 3 dX1_slidesOnce_2 rfl rfl ?_
  refine wp_iconst (v := 4) dX1_slidesOnce_3 rfl ?_
  refine wp_icmp_ge (tgt := 121) dX1_slidesOnce_4 (by decide) (fun c1 => ?_) (fun c1 => ?_)
  · replace h := h.1 c1
    refine wp_iconst (v := 0) dX1_slidesOnce_121 rfl ?_
    exact wn_zret dX1_slidesOnce_122 rfl (Or.inl rfl) h
  · replace h := h.2 c1
    refine wp_aload_n 0 dX1_slidesOnce_7 rfl rfl ?_
    refine wp_iload_n 3 dX1_slidesOnce_8 rfl rfl ?_
    obtain ⟨q2, o3, h⟩ := h
    refine wp_cvi dX1_slidesOnce_9 ck_RX1_61 (sh1_K hS) (as := [.int x3]) rfl rfl (Nat.le_of_ble_eq_true rfl) o3 (fun M4 r5 o6 => ?_)
    replace h := h M4 r5 o6
    refine wp_aload_n 0 dX1_slidesOnce_12 rfl rfl ?_
    refine wp_iload_n 3 dX1_slidesOnce_13 rfl rfl ?_
    refine wp_iconst (v := 1) dX1_slidesOnce_14 rfl ?_
    refine wp_iadd dX1_slidesOnce_15 ?_
    obtain ⟨q7, o8, h⟩ := h
    refine wp_cvi dX1_slidesOnce_16 ck_RX1_61 (sh1_K hS) (as := [.int ((x3 + 1))]) rfl rfl (Nat.le_of_ble_eq_true rfl) o8 (fun M9 r10 o11 => ?_)
    replace h := h M9 r10 o11
    refine wp_isub dX1_slidesOnce_19 ?_
    refine wp_topi (fun v12 ev12 => ?_)
    replace h := h v12 ev12
    refine wp_istore (lo2 := [(4, .int _), (0, .ref _), (1, .ref _), (2, .int _), (3, .int _)]) dX1_slidesOnce_20 (by decide) rfl ?_
    refine wp_iload 0 dX1_slidesOnce_22 rfl ?_
    have K14 : Wp G m_X1_slidesOnce (d + 1) 0 0 0 0 34 [(4, .int v12), (0, .ref a), (1, .ref b1), (2, .int x2), (3, .int x3)] [.int ((if v12 ≤ 0 then (x3 + 1) else x3))] X M9 (fun X2 M2 v => X2 = X ∧ ∃ x, v = some (.int x) ∧ Q M2 x) := by
      refine wp_topi (fun v15 ev15 => ?_)
      replace h := h v15 ev15
      refine wp_istore (lo2 := [(5, .int _), (4, .int _), (0, .ref _), (1, .ref _), (2, .int _), (3, .int _)]) dX1_slidesOnce_34 (by decide) rfl ?_
      refine wp_iload 1 dX1_slidesOnce_36 rfl ?_
      have K17 : Wp G m_X1_slidesOnce (d + 1) 0 0 0 0 48 [(5, .int v15), (4, .int v12), (0, .ref a), (1, .ref b1), (2, .int x2), (3, .int x3)] [.int ((if v12 ≤ 0 then x3 else (x3 + 1)))] X M9 (fun X2 M2 v => X2 = X ∧ ∃ x, v = some (.int x) ∧ Q M2 x) := by
        refine wp_topi (fun v18 ev18 => ?_)
        replace h := h v18 ev18
        refine wp_istore (lo2 := [(6, .int _), (5, .int _), (4, .int _), (0, .ref _), (1, .ref _), (2, .int _), (3, .int _)]) dX1_slidesOnce_48 (by decide) rfl ?_
        refine wp_iload 2 dX1_slidesOnce_50 rfl ?_
        refine wp_mabs dX1_slidesOnce_52 ml_RX1_143 ms_abs mi_Math mc_abs (Nat.le_of_ble_eq_true rfl) (Nat.le_refl _) (Nat.le_refl _) ?_
        refine wp_iload_n 5 dX1_slidesOnce_55 rfl rfl ?_
        refine wp_icmp_le (tgt := 115) dX1_slidesOnce_56 (by decide) (fun c19 => ?_) (fun c19 => ?_)
        · replace h := h.1 c19
          refine wp_iinc (v := x3 + 1) (lo2 := [(3, .int _), (6, .int _), (5, .int _), (4, .int _), (0, .ref _), (1, .ref _), (2, .int _)]) dX1_slidesOnce_115 (q := 6) rfl rfl (by decide) rfl ?_
          refine wp_goto (tgt := 2) dX1_slidesOnce_118 (by decide) ?_
          exact Wp.sub [4, 5, 6, 0] rfl h
        · replace h := h.2 c19
          refine wp_aload_n 4 dX1_slidesOnce_59 rfl rfl ?_
          refine wp_getR dX1_slidesOnce_60 fl_RX1_74 rfl (sh4_K hS1) (sh4_F_inRing hS1) ?_
          refine wp_iload 1 dX1_slidesOnce_63 rfl ?_
          obtain ⟨j20, o21, o22, h⟩ := h
          refine wp_iald (n := 5) dX1_slidesOnce_65 (sh4_K_inRing hS1) (sh4_N_inRing hS1) (by decide) o21 o22 ?_
          refine wp_if_le (tgt := 115) dX1_slidesOnce_66 (by decide) (fun c23 => ?_) (fun c23 => ?_)
          · replace h := h.1 c23
            refine wp_iinc (v := x3 + 1) (lo2 := [(3, .int _), (6, .int _), (5, .int _), (4, .int _), (0, .ref _), (1, .ref _), (2, .int _)]) dX1_slidesOnce_115 (q := 6) rfl rfl (by decide) rfl ?_
            refine wp_goto (tgt := 2) dX1_slidesOnce_118 (by decide) ?_
            exact Wp.sub [4, 5, 6, 0] rfl h
          · replace h := h.2 c23
            refine wp_aload_n 4 dX1_slidesOnce_69 rfl rfl ?_
            refine wp_getR dX1_slidesOnce_70 fl_RX1_74 rfl (sh4_K hS1) (sh4_F_inRing hS1) ?_
            refine wp_iload 1 dX1_slidesOnce_73 rfl ?_
            refine wp_dup2_11 dX1_slidesOnce_75 rfl rfl ?_
            refine wp_iald (n := 5) dX1_slidesOnce_76 (sh4_K_inRing hS1) (sh4_N_inRing hS1) (by decide) o21 o22 ?_
            refine wp_iconst (v := 1) dX1_slidesOnce_77 rfl ?_
            refine wp_isub dX1_slidesOnce_78 ?_
            refine wp_iast (n := 5) dX1_slidesOnce_79 (sh4_K_inRing hS1) (sh4_N_inRing hS1) (by decide) o21 o22 ?_
            refine wp_nm (fun M24 eM24 => ?_)
            replace h := h M24 eM24
            refine wp_aload_n 3 dX1_slidesOnce_80 rfl rfl ?_
            refine wp_getR dX1_slidesOnce_81 fl_RX1_34 rfl (sh1_K hS) (sh1_F_bulk hS) ?_
            refine wp_iload 1 dX1_slidesOnce_84 rfl ?_
            refine wp_dup2_11 dX1_slidesOnce_86 rfl rfl ?_
            refine wp_iald (n := 5) dX1_slidesOnce_87 (sh1_K_bulk hS) (sh1_N_bulk hS) (by decide) o21 o22 ?_
            refine wp_iconst (v := 1) dX1_slidesOnce_88 rfl ?_
            refine wp_isub dX1_slidesOnce_89 ?_
            refine wp_iast (n := 5) dX1_slidesOnce_90 (sh1_K_bulk hS) (sh1_N_bulk hS) (by decide) o21 o22 ?_
            refine wp_nm (fun M25 eM25 => ?_)
            replace h := h M25 eM25
            refine wp_aload_n 4 dX1_slidesOnce_91 rfl rfl ?_
            refine wp_getR dX1_slidesOnce_92 fl_RX1_74 rfl (sh4_K hS1) (sh4_F_inRing hS1) ?_
            refine wp_iload 0 dX1_slidesOnce_95 rfl ?_
            refine wp_dup2_11 dX1_slidesOnce_97 rfl rfl ?_
            obtain ⟨j26, o27, o28, h⟩ := h
            refine wp_iald (n := 5) dX1_slidesOnce_98 (sh4_K_inRing hS1) (sh4_N_inRing hS1) (by decide) o27 o28 ?_
            refine wp_iconst (v := 1) dX1_slidesOnce_99 rfl ?_
            refine wp_iadd dX1_slidesOnce_100 ?_
            refine wp_iast (n := 5) dX1_slidesOnce_101 (sh4_K_inRing hS1) (sh4_N_inRing hS1) (by decide) o27 o28 ?_
            refine wp_nm (fun M29 eM29 => ?_)
            replace h := h M29 eM29
            refine wp_aload_n 3 dX1_slidesOnce_102 rfl rfl ?_
            refine wp_getR dX1_slidesOnce_103 fl_RX1_34 rfl (sh1_K hS) (sh1_F_bulk hS) ?_
            refine wp_iload 0 dX1_slidesOnce_106 rfl ?_
            refine wp_dup2_11 dX1_slidesOnce_108 rfl rfl ?_
            refine wp_iald (n := 5) dX1_slidesOnce_109 (sh1_K_bulk hS) (sh1_N_bulk hS) (by decide) o27 o28 ?_
            refine wp_iconst (v := 1) dX1_slidesOnce_110 rfl ?_
            refine wp_iadd dX1_slidesOnce_111 ?_
            refine wp_iast (n := 5) dX1_slidesOnce_112 (sh1_K_bulk hS) (sh1_N_bulk hS) (by decide) o27 o28 ?_
            refine wp_nm (fun M30 eM30 => ?_)
            replace h := h M30 eM30
            refine wp_iconst (v := 1) dX1_slidesOnce_113 rfl ?_
            exact wn_zret dX1_slidesOnce_114 rfl (Or.inr rfl) h
      refine wp_if_le (tgt := 47) dX1_slidesOnce_38 (by decide) (fun c16 => ?_) (fun c16 => ?_)
      · refine wp_iload_n 5 dX1_slidesOnce_47 rfl rfl ?_
        rw [if_pos c16] at K17
        exact K17
      · refine wp_iload_n 5 dX1_slidesOnce_41 rfl rfl ?_
        refine wp_iconst (v := 1) dX1_slidesOnce_42 rfl ?_
        refine wp_iadd dX1_slidesOnce_43 ?_
        refine wp_goto (tgt := 48) dX1_slidesOnce_44 (by decide) ?_
        rw [if_neg c16] at K17
        exact K17
    refine wp_if_le (tgt := 31) dX1_slidesOnce_24 (by decide) (fun c13 => ?_) (fun c13 => ?_)
    · refine wp_iload_n 4 dX1_slidesOnce_31 rfl rfl ?_
      refine wp_iconst (v := 1) dX1_slidesOnce_32 rfl ?_
      refine wp_iadd dX1_slidesOnce_33 ?_
      rw [if_pos c13] at K14
      exact K14
    · refine wp_iload_n 4 dX1_slidesOnce_27 rfl rfl ?_
      refine wp_goto (tgt := 34) dX1_slidesOnce_28 (by decide) ?_
      rw [if_neg c13] at K14
      exact K14
theorem abs_gt {v sl : Int32} (h : 0 ≤ sl) : ¬ ((if 0 ≤ v then v else 0 - v) ≤ sl) ↔ (sl < v ∨ ¬ (-v ≤ sl)) := by
  by_cases hv : 0 ≤ v
  · rw [if_pos hv]
    have h2 : -v ≤ sl := by
      obtain ⟨k, hk, rfl⟩ := nI_of (i_nlt.mpr hv)
      obtain ⟨j, hj, rfl⟩ := nI_of (i_nlt.mpr h)
      rw [fa_le, Int32.toInt_neg, nI_toInt hj, nI_toInt hk, Int.bmod_def]
      omega
    constructor
    · intro q
      exact Or.inl (i_nle.mp q)
    · rintro (q | q)
      · exact i_nle.mpr q
      · exact absurd h2 q
  · rw [if_neg hv, Int32.zero_sub]
    constructor
    · exact Or.inr
    · rintro (q | q)
      · exact absurd (Int32.le_trans h (Int32.le_of_lt q)) hv
      · exact q
theorem sl_hi_i (β : Nat → Int32) (r : Nat) : (if sl_far β r ≤ 0 then nI (r + 1) else nI r) = nI (sl_hi β r) := by
  unfold sl_hi
  split <;> rfl
theorem sl_lo_i (β : Nat → Int32) (r : Nat) : (if sl_far β r ≤ 0 then nI r else nI (r + 1)) = nI (sl_lo β r) := by
  unfold sl_lo
  split <;> rfl
/-- one layer's rings and the bulks have come to be p -/
def SlQ (M : Mm) (a b : Nat) (p : (Nat → Int32) × (Nat → Int32)) (M2 : Mm) : Prop := mI M2 (a + 50) = p.1 ∧ mI M2 (b + 1) = p.2 ∧ (∀ c, c ≠ a + 50 → c ≠ b + 1 → mI M2 c = mI M c) ∧ mJ M2 = mJ M ∧ mR M2 = mR M
def OnceQ (M : Mm) (a b : Nat) (sl : Int32) (M2 : Mm) (x : Int32) : Prop := match sl_next sl (mI M (a + 50)) (mI M (b + 1)) 4 with
  | none => M2 = M ∧ x = 0
  | some r => x = 1 ∧ SlQ M a b (sl_move (mI M (a + 50)) (sl_hi (mI M (a + 50)) r) (sl_lo (mI M (a + 50)) r), sl_move (mI M (b + 1)) (sl_hi (mI M (a + 50)) r) (sl_lo (mI M (a + 50)) r)) M2
theorem n4 {i : Nat} (h : i < 4) : ¬ (4 : Int32) ≤ nI i := fun q => by
  have := (nI_leI (a := 4) (by omega) (by omega)).mp q
  omega
theorem cl_X1_slidesOnce (G : Gl) (d : Nat) {X : Sh} {M : Mm} {a b : Nat} {sl : Int32} (hS : Sh1 X a) (hb : Sh4 X b) (hab : b + 1 ≠ a + 50) (h0 : 0 ≤ sl) :
    ∀ n i : Nat, i + n = 4 → sl_next sl (mI M (a + 50)) (mI M (b + 1)) 4 = sl_next sl (mI M (a + 50)) (mI M (b + 1)) n → Wn G m_X1_slidesOnce (d + 1) 2 [(0, .ref a), (1, .ref b), (2, .int sl), (3, .int (nI i))] [] X M (OnceQ M a b sl)
  | 0, i, h, hs => by
    have hi : i = 4 := h
    subst hi
    refine bX1_slidesOnce_2 hS hb ⟨fun _ => ?_, fun h => absurd (by decide) h⟩
    unfold OnceQ
    rw [hs]
    exact ⟨rfl, rfl⟩
  | n + 1, i, h, hs => by
    have hi : 3 - n = i := by omega
    have hs2 : sl_next sl (mI M (a + 50)) (mI M (b + 1)) (n + 1) = if sl_c sl (mI M (a + 50)) (mI M (b + 1)) i then some i else sl_next sl (mI M (a + 50)) (mI M (b + 1)) n := by
      rw [← hi]
      rfl
    refine bX1_slidesOnce_2 hS hb ⟨fun h2 => absurd h2 (n4 (by omega)), fun _ => ⟨_, cp_X1_topOf G d X M a i hS (by omega), ?_⟩⟩
    rintro M2 _ ⟨e, rfl⟩
    have e := e.symm
    subst e
    rw [nI_1]
    refine ⟨_, cp_X1_topOf G d X M a (i + 1) hS (by omega), ?_⟩
    rintro M2 _ ⟨e, rfl⟩
    have e := e.symm
    subst e
    rintro v e1
    have e1 : v = sl_far (mI M (a + 50)) i := e1
    subst e1
    rintro v15 rfl v18 rfl
    rw [sl_hi_i, sl_lo_i]
    refine ⟨fun h2 => ?_, fun h2 => ⟨_, rfl, sl_hi_lt _ (by omega), fun h3 => ?_, fun h3 => ?_⟩⟩
    · refine cl_X1_slidesOnce G d hS hb hab h0 n (i + 1) (by omega) ?_
      rw [hs, hs2, if_neg (fun q => (abs_gt h0).mpr q.1 h2)]
    · refine cl_X1_slidesOnce G d hS hb hab h0 n (i + 1) (by omega) ?_
      rw [hs, hs2, if_neg (fun q => i_nle.mpr q.2 h3)]
    · rintro M24 rfl M25 rfl
      refine ⟨_, rfl, sl_lo_lt _ (by omega), ?_⟩
      rintro M29 rfl M30 rfl
      unfold OnceQ
      rw [hs, hs2, if_pos ⟨(abs_gt h0).mp h2, i_nle.mp h3⟩]
      refine ⟨rfl, ?_, ?_, fun c h4 h5 => ?_, rfl, rfl⟩
      · simp only [mI_sI, up2_row, up2_off _ _ _ hab, up2_off _ _ _ (Ne.symm hab)]
        rfl
      · simp only [mI_sI, up2_row, up2_off _ _ _ hab, up2_off _ _ _ (Ne.symm hab)]
        rfl
      · simp only [mI_sI, up2_off _ _ _ h4, up2_off _ _ _ h5]
theorem cp_X1_slidesOnce (G : Gl) (d : Nat) (hd : 1 ≤ d) (X : Sh) (M : Mm) (a b : Nat) (sl : Int32) (hS : Sh1 X a) (hb : Sh4 X b) (hab : b + 1 ≠ a + 50) (h0 : 0 ≤ sl) : Cn G m_X1_slidesOnce d [.ref a, .ref b, .int sl] X M (OnceQ M a b sl) := by
  obtain ⟨d, rfl⟩ : ∃ d1, d = d1 + 1 := ⟨d - 1, by omega⟩
  refine Cn.of (by decide) (Nat.le_of_ble_eq_true rfl) (bX1_slidesOnce_0 hS hb ?_)
  exact cl_X1_slidesOnce G d hS hb hab h0 4 0 rfl rfl
theorem bX1_slide_0 {G : Gl} {d : Nat} {X : Sh} {M : Mm} {Q : Mm → Prop} {a : Nat} {x1 : Int32} (hS : Sh1 X a) (h : ((1 ≤ (mI M a 5) → (∃ j2 : Nat, ((mI M a 5) - 1) = nI j2 ∧ j2 < 24 ∧ (∃ la5 : Nat, mR M (a + 1) j2 = some la5 ∧ Sh4 X la5 ∧ Wv G m_X1_slide (d + 1) 23 [(0, .ref a), (1, .int x1), (2, .ref la5), (3, .int 0)] [] X M Q))) ∧ (¬ (1 ≤ (mI M a 5)) → Q M))) : Wv G m_X1_slide (d + 1) 0 [(0, .ref a), (1, .int x1)] [] X M Q := by
  refine wp_aload_n 0 dX1_slide_0 rfl rfl ?_
  refine wp_getI dX1_slide_1 fl_RX1_31 rfl (sh1_K hS) ?_
  refine wp_iconst (v := 1) dX1_slide_4 rfl ?_
  refine wp_icmp_ge (tgt := 9) dX1_slide_5 (by decide) (fun c1 => ?_) (fun c1 => ?_)
  · replace h := h.1 c1
    refine wp_aload_n 0 dX1_slide_9 rfl rfl ?_
    refine wp_getR dX1_slide_10 fl_RX1_26 rfl (sh1_K hS) (sh1_F_layers hS) ?_
    refine wp_aload_n 0 dX1_slide_13 rfl rfl ?_
    refine wp_getI dX1_slide_14 fl_RX1_31 rfl (sh1_K hS) ?_
    refine wp_iconst (v := 1) dX1_slide_17 rfl ?_
    refine wp_isub dX1_slide_18 ?_
    obtain ⟨j2, o3, o4, h⟩ := h
    obtain ⟨la5, o6, o7, h⟩ := h
    refine wp_rald (n := 24) dX1_slide_19 (sh1_K_layers hS) (sh1_N_layers hS) (by decide) o3 o4 o6 ?_
    refine wp_astore_n (lo2 := [(2, .ref _), (0, .ref _), (1, .int _)]) dX1_slide_20 rfl (by decide) rfl ?_
    refine wp_iconst (v := 0) dX1_slide_21 rfl ?_
    refine wp_istore_n (lo2 := [(3, .int _), (2, .ref _), (0, .ref _), (1, .int _)]) dX1_slide_22 rfl (by decide) rfl ?_
    exact Wp.sub [2, 3, 1, 0] rfl h
  · replace h := h.2 c1
    exact wv_ret dX1_slide_8 rfl h
theorem bX1_slide_23 {G : Gl} {d : Nat} {X : Sh} {M : Mm} {Q : Mm → Prop} {a : Nat} {x1 : Int32} {b2 : Nat} {x3 : Int32} (hS : Sh1 X a) (hS2 : Sh4 X b2) (h : ((400 ≤ x3 → Q M) ∧ (¬ (400 ≤ x3) → (∃ q2 : Mm → Int32 → Prop, Cn G m_X1_slidesOnce d [.ref a, .ref b2, .int x1] X M q2 ∧ ∀ M4 r5, q2 M4 r5 → ((¬ (r5 = 0) → Wv G m_X1_slide (d + 1) 23 [(0, .ref a), (1, .int x1), (2, .ref b2), (3, .int (x3 + 1))] [] X M4 Q) ∧ (r5 = 0 → Q M4)))))) : Wv G m_X1_slide (d + 1) 23 [(0, .ref a), (1, .int x1), (2, .ref b2), (3, .int x3)] [] X M Q := by
  refine wp_iload_n 3 dX1_slide_23 rfl rfl ?_
  refine wp_sipush (v := 400) dX1_slide_24 rfl ?_
  refine wp_icmp_ge (tgt := 46) dX1_slide_27 (by decide) (fun c1 => ?_) (fun c1 => ?_)
  · replace h := h.1 c1
    exact wv_ret dX1_slide_46 rfl h
  · replace h := h.2 c1
    refine wp_aload_n 0 dX1_slide_30 rfl rfl ?_
    refine wp_aload_n 2 dX1_slide_31 rfl rfl ?_
    refine wp_iload_n 1 dX1_slide_32 rfl rfl ?_
    obtain ⟨q2, o3, h⟩ := h
    refine wp_cvi dX1_slide_33 ck_RX1_139 (sh1_K hS) (as := [.ref b2, .int x1]) rfl rfl (Nat.le_of_ble_eq_true rfl) o3 (fun M4 r5 o6 => ?_)
    replace h := h M4 r5 o6
    refine wp_if_ne (tgt := 40) dX1_slide_36 (by decide) (fun c7 => ?_) (fun c7 => ?_)
    · replace h := h.1 c7
      refine wp_iinc (v := x3 + 1) (lo2 := [(3, .int _), (0, .ref _), (1, .int _), (2, .ref _)]) dX1_slide_40 (q := 3) rfl rfl (by decide) rfl ?_
      refine wp_goto (tgt := 23) dX1_slide_43 (by decide) ?_
      exact Wp.sub [1, 2, 3, 0] rfl h
    · replace h := h.2 c7
      exact wv_ret dX1_slide_39 rfl h
theorem cl_X1_slide (G : Gl) (d : Nat) (hd : 1 ≤ d) {X : Sh} {a b : Nat} {sl : Int32} (hS : Sh1 X a) (hb : Sh4 X b) (hab : b + 1 ≠ a + 50) (h0 : 0 ≤ sl) {Q : Mm → Prop} :
    ∀ (n i : Nat) (M : Mm), i + n = 400 → (∀ M2, SlQ M a b (sl_iter sl n (mI M (a + 50)) (mI M (b + 1))) M2 → Q M2) → Wv G m_X1_slide (d + 1) 23 [(0, .ref a), (1, .int sl), (2, .ref b), (3, .int (nI i))] [] X M Q
  | 0, i, M, h, hq => by
    have hi : i = 400 := h
    subst hi
    exact bX1_slide_23 hS hb ⟨fun _ => hq M ⟨rfl, rfl, fun _ _ _ => rfl, rfl, rfl⟩, fun h => absurd (by decide) h⟩
  | n + 1, i, M, h, hq => by
    have hi : ¬ (400 : Int32) ≤ nI i := fun q => by
      have := (nI_leI (a := 400) (by omega) (by omega)).mp q
      omega
    refine bX1_slide_23 hS hb ⟨fun h2 => absurd h2 hi, fun _ => ⟨_, cp_X1_slidesOnce G d hd X M a b sl hS hb hab h0, ?_⟩⟩
    intro M4 x h4
    cases hr : sl_next sl (mI M (a + 50)) (mI M (b + 1)) 4 with
    | none =>
      unfold OnceQ at h4
      rw [hr] at h4
      obtain ⟨e, rfl⟩ := h4
      have e := e.symm
      subst e
      refine ⟨fun h => absurd rfl h, fun _ => hq M ?_⟩
      rw [sl_iter_none hr]
      exact ⟨rfl, rfl, fun _ _ _ => rfl, rfl, rfl⟩
    | some r =>
      unfold OnceQ at h4
      rw [hr] at h4
      obtain ⟨rfl, h1, h2, h3, h5, h6⟩ := h4
      refine ⟨fun _ => ?_, fun h => absurd h (by decide)⟩
      rw [nI_1]
      refine cl_X1_slide G d hd hS hb hab h0 n (i + 1) M4 (by omega) (fun M2 h7 => hq M2 ?_)
      rw [sl_iter_some hr]
      rw [h1, h2] at h7
      exact ⟨h7.1, h7.2.1, fun c hc hc2 => (h7.2.2.1 c hc hc2).trans (h3 c hc hc2), h7.2.2.2.1.trans h5, h7.2.2.2.2.trans h6⟩
theorem cp_X1_slide (G : Gl) (d : Nat) (hd : 2 ≤ d) (X : Sh) (M : Mm) (a b nl : Nat) (sl : Int32) (hS : Sh1 X a) (hn : mI M a 5 = nI (nl + 1)) (hnl : nl < 24) (hr : mR M (a + 1) nl = some b) (hb : Sh4 X b) (hab : b + 1 ≠ a + 50) (h0 : 0 ≤ sl) : Cv G m_X1_slide d [.ref a, .int sl] X M (SlQ M a b (sl_iter sl 400 (mI M (a + 50)) (mI M (b + 1)))) := by
  obtain ⟨d, rfl⟩ : ∃ d1, d = d1 + 1 := ⟨d - 1, by omega⟩
  refine Cv.of (by decide) (Nat.le_of_ble_eq_true rfl) (bX1_slide_0 hS ⟨fun _ => ⟨nl, ?_, hnl, b, hr, hb, ?_⟩, fun h => ?_⟩)
  · rw [hn, nI_pred]
  · exact cl_X1_slide G d (by omega) hS hb hab h0 400 0 M rfl (fun _ h => h)
  · exact absurd (by rw [hn]; exact (nI_leI (a := 1) (by omega) (by omega)).mpr (by omega)) h
theorem bX1_layOn_0 {G : Gl} {d : Nat} {X : Sh} {M : Mm} {Q : Mm → Prop} {a : Nat} {b1 : Nat} {x2 : Int32} {x3 : Int32} (hS : Sh1 X a) (hS1 : Sh0 X b1) (hd : 1 ≤ d) (h : ((mI M a 5 < 24 → (∃ j2 : Nat, (mI M a 5) = nI j2 ∧ j2 < 24 ∧ (∃ la5 : Nat, mR M (a + 1) j2 = some la5 ∧ Sh4 X la5 ∧ (∀ M8 : Mm, M8 = sI M a 5 ((mI M a 5) + 1) → (∃ j9 : Nat, x2 = nI j9 ∧ j9 < 6 ∧ (∀ v12 : Int32, v12 = (mI M8 (b1 + 1) j9) → (∀ v13 : Int32, v13 = (mI M8 (b1 + 2) j9) → (∀ M14 : Mm, M14 = sI M8 la5 0 x2 → (∀ M15 : Mm, M15 = sI M14 la5 1 (mI M14 a 0) → (∀ M16 : Mm, M16 = sI M15 la5 2 x3 → (∀ M17 : Mm, M17 = sI M16 la5 3 (f_holds v12) → (∀ M18 : Mm, M18 = sI M17 la5 4 (f_iron v12 v13 x3) → (∀ M19 : Mm, M19 = sI M18 la5 5 (f_acid v12 v13 x3) → (∀ M20 : Mm, M20 = sI M19 la5 6 (f_lime v12 v13 x3) → (∀ M21 : Mm, M21 = sI M20 la5 7 (f_bulk v12 x3) → (∀ M22 : Mm, M22 = sI M21 la5 8 (mI M21 la5 7) → (∀ v23 : Int32, v23 = (mI M22 (b1 + 5) j9) → Wv G m_X1_layOn (d + 1) 147 [(0, .ref a), (4, .ref la5), (7, .int v23), (8, .int 4)] [] X M22 Q))))))))))))))))) ∧ (¬ (mI M a 5 < 24) → Q M))) : Wv G m_X1_layOn (d + 1) 0 [(0, .ref a), (1, .ref b1), (2, .int x2), (3, .int x3)] [] X M Q := by
  refine wp_aload_n 0 dX1_layOn_0 rfl rfl ?_
  refine wp_cvip dX1_layOn_1 ck_RX1_86 (sh1_K hS) (as := []) rfl rfl (Nat.le_of_ble_eq_true rfl) (cp_X1_hasRoom G d X M a hS) ?_
  refine wp_ifB_ne (inferInstance) (tgt := 8) dX1_layOn_4 (by decide) (fun c1 => ?_) (fun c1 => ?_)
  · replace h := h.1 c1
    refine wp_aload_n 0 dX1_layOn_8 rfl rfl ?_
    refine wp_getR dX1_layOn_9 fl_RX1_26 rfl (sh1_K hS) (sh1_F_layers hS) ?_
    refine wp_aload_n 0 dX1_layOn_12 rfl rfl ?_
    refine wp_getI dX1_layOn_13 fl_RX1_31 rfl (sh1_K hS) ?_
    obtain ⟨j2, o3, o4, h⟩ := h
    obtain ⟨la5, o6, o7, h⟩ := h
    refine wp_rald (n := 24) dX1_layOn_16 (sh1_K_layers hS) (sh1_N_layers hS) (by decide) o3 o4 o6 ?_
    refine wp_astore (lo2 := [(4, .ref _), (0, .ref _), (1, .ref _), (2, .int _), (3, .int _)]) dX1_layOn_17 (by decide) rfl ?_
    refine wp_aload_n 1 dX1_layOn_19 rfl rfl ?_
    refine wp_dup dX1_layOn_20 rfl ?_
    refine wp_getI dX1_layOn_21 fl_RX1_31 rfl (sh1_K hS) ?_
    refine wp_iconst (v := 1) dX1_layOn_24 rfl ?_
    refine wp_iadd dX1_layOn_25 ?_
    refine wp_putI dX1_layOn_26 fp_RX1_31 rfl (sh1_K hS) ?_
    refine wp_nm (fun M8 eM8 => ?_)
    replace h := h M8 eM8
    refine wp_aload_n 2 dX1_layOn_29 rfl rfl ?_
    refine wp_getR dX1_layOn_30 fl_RX1_90 rfl (sh0_K hS1) (sh0_F_kind hS1) ?_
    refine wp_iload_n 3 dX1_layOn_33 rfl rfl ?_
    obtain ⟨j9, o10, o11, h⟩ := h
    refine wp_iald (n := 6) dX1_layOn_34 (sh0_K_kind hS1) (sh0_N_kind hS1) (by decide) o10 o11 ?_
    refine wp_topi (fun v12 ev12 => ?_)
    replace h := h v12 ev12
    refine wp_istore (lo2 := [(5, .int _), (4, .ref _), (0, .ref _), (1, .ref _), (2, .int _), (3, .int _)]) dX1_layOn_35 (by decide) rfl ?_
    refine wp_aload_n 3 dX1_layOn_37 rfl rfl ?_
    refine wp_getR dX1_layOn_38 fl_RX1_95 rfl (sh0_K hS1) (sh0_F_share hS1) ?_
    refine wp_iload_n 4 dX1_layOn_41 rfl rfl ?_
    refine wp_iald (n := 6) dX1_layOn_42 (sh0_K_share hS1) (sh0_N_share hS1) (by decide) o10 o11 ?_
    refine wp_topi (fun v13 ev13 => ?_)
    replace h := h v13 ev13
    refine wp_istore (lo2 := [(6, .int _), (5, .int _), (4, .ref _), (0, .ref _), (1, .ref _), (2, .int _), (3, .int _)]) dX1_layOn_43 (by decide) rfl ?_
    refine wp_aload 2 dX1_layOn_45 rfl ?_
    refine wp_iload_n 5 dX1_layOn_47 rfl rfl ?_
    refine wp_putI dX1_layOn_48 fp_RX1_98 rfl (sh4_K o7) ?_
    refine wp_nm (fun M14 eM14 => ?_)
    replace h := h M14 eM14
    refine wp_aload 2 dX1_layOn_51 rfl ?_
    refine wp_aload_n 3 dX1_layOn_53 rfl rfl ?_
    refine wp_getI dX1_layOn_54 fl_RX1_9 rfl (sh1_K hS) ?_
    refine wp_putI dX1_layOn_57 fp_RX1_101 rfl (sh4_K o7) ?_
    refine wp_nm (fun M15 eM15 => ?_)
    replace h := h M15 eM15
    refine wp_aload 2 dX1_layOn_60 rfl ?_
    refine wp_iload_n 6 dX1_layOn_62 rfl rfl ?_
    refine wp_putI dX1_layOn_63 fp_RX1_102 rfl (sh4_K o7) ?_
    refine wp_nm (fun M16 eM16 => ?_)
    replace h := h M16 eM16
    refine wp_aload 2 dX1_layOn_66 rfl ?_
    refine wp_iload 1 dX1_layOn_68 rfl ?_
    refine wp_csip dX1_layOn_70 ck_RX1_105 rfl (as := [.int v12]) rfl rfl (Nat.le_of_ble_eq_true rfl) (cp_X7_holdsOf G d X M16 v12) ?_
    refine wp_putI dX1_layOn_73 fp_RX1_77 rfl (sh4_K o7) ?_
    refine wp_nm (fun M17 eM17 => ?_)
    replace h := h M17 eM17
    refine wp_aload 2 dX1_layOn_76 rfl ?_
    refine wp_iload 1 dX1_layOn_78 rfl ?_
    refine wp_iload 0 dX1_layOn_80 rfl ?_
    refine wp_iload_n 6 dX1_layOn_82 rfl rfl ?_
    refine wp_csip dX1_layOn_83 ck_RX1_110 rfl (as := [.int v12, .int v13, .int x3]) rfl rfl (Nat.le_of_ble_eq_true rfl) (cp_X7_ironOf G d X M17 v12 v13 x3) ?_
    refine wp_putI dX1_layOn_86 fp_RX1_114 rfl (sh4_K o7) ?_
    refine wp_nm (fun M18 eM18 => ?_)
    replace h := h M18 eM18
    refine wp_aload 2 dX1_layOn_89 rfl ?_
    refine wp_iload 1 dX1_layOn_91 rfl ?_
    refine wp_iload 0 dX1_layOn_93 rfl ?_
    refine wp_iload_n 6 dX1_layOn_95 rfl rfl ?_
    refine wp_csip dX1_layOn_96 ck_RX1_115 rfl (as := [.int v12, .int v13, .int x3]) rfl rfl (Nat.le_of_ble_eq_true rfl) (cp_X7_acidOf G d (by omega) X M18 v12 v13 x3) ?_
    refine wp_putI dX1_layOn_99 fp_RX1_118 rfl (sh4_K o7) ?_
    refine wp_nm (fun M19 eM19 => ?_)
    replace h := h M19 eM19
    refine wp_aload 2 dX1_layOn_102 rfl ?_
    refine wp_iload 1 dX1_layOn_104 rfl ?_
    refine wp_iload 0 dX1_layOn_106 rfl ?_
    refine wp_iload_n 6 dX1_layOn_108 rfl rfl ?_
    refine wp_csip dX1_layOn_109 ck_RX1_119 rfl (as := [.int v12, .int v13, .int x3]) rfl rfl (Nat.le_of_ble_eq_true rfl) (cp_X7_limeOf G d X M19 v12 v13 x3) ?_
    refine wp_putI dX1_layOn_112 fp_RX1_122 rfl (sh4_K o7) ?_
    refine wp_nm (fun M20 eM20 => ?_)
    replace h := h M20 eM20
    refine wp_aload 2 dX1_layOn_115 rfl ?_
    refine wp_iload 1 dX1_layOn_117 rfl ?_
    refine wp_iload_n 6 dX1_layOn_119 rfl rfl ?_
    refine wp_csip dX1_layOn_120 ck_RX1_123 rfl (as := [.int v12, .int x3]) rfl rfl (Nat.le_of_ble_eq_true rfl) (cp_X7_bulkOf G d X M20 v12 x3) ?_
    refine wp_putI dX1_layOn_123 fp_RX1_126 rfl (sh4_K o7) ?_
    refine wp_nm (fun M21 eM21 => ?_)
    replace h := h M21 eM21
    refine wp_aload 2 dX1_layOn_126 rfl ?_
    refine wp_aload 2 dX1_layOn_128 rfl ?_
    refine wp_getI dX1_layOn_130 fl_RX1_126 rfl (sh4_K o7) ?_
    refine wp_putI dX1_layOn_133 fp_RX1_129 rfl (sh4_K o7) ?_
    refine wp_nm (fun M22 eM22 => ?_)
    replace h := h M22 eM22
    refine wp_aload_n 4 dX1_layOn_136 rfl rfl ?_
    refine wp_getR dX1_layOn_137 fl_RX1_132 rfl (sh0_K hS1) (sh0_F_turns hS1) ?_
    refine wp_iload_n 5 dX1_layOn_140 rfl rfl ?_
    refine wp_iald (n := 6) dX1_layOn_141 (sh0_K_turns hS1) (sh0_N_turns hS1) (by decide) o10 o11 ?_
    refine wp_topi (fun v23 ev23 => ?_)
    replace h := h v23 ev23
    refine wp_istore (lo2 := [(7, .int _), (6, .int _), (5, .int _), (4, .ref _), (0, .ref _), (1, .ref _), (2, .int _), (3, .int _)]) dX1_layOn_142 (by decide) rfl ?_
    refine wp_iconst (v := 4) dX1_layOn_144 rfl ?_
    refine wp_istore (lo2 := [(8, .int _), (7, .int _), (6, .int _), (5, .int _), (4, .ref _), (0, .ref _), (1, .ref _), (2, .int _), (3, .int _)]) dX1_layOn_145 (by decide) rfl ?_
    exact Wp.sub [5, 4, 1, 0] rfl h
  · replace h := h.2 c1
    exact wv_ret dX1_layOn_7 rfl h
theorem bX1_layOn_147 {G : Gl} {d : Nat} {X : Sh} {M : Mm} {Q : Mm → Prop} {a : Nat} {b4 : Nat} {x7 : Int32} {x8 : Int32} (hS : Sh1 X a) (hS4 : Sh4 X b4) (h : ((x8 < 0 → (∃ q2 : Mm → Prop, Cv G m_X1_partByWeights d [.ref a, .int ((mI M b4 7))] X M q2 ∧ ∀ M4, q2 M4 → Wv G m_X1_layOn (d + 1) 189 [(0, .ref a), (4, .ref b4), (8, .int 0)] [] X M4 Q)) ∧ (¬ (x8 < 0) → (∃ j6 : Nat, x8 = nI j6 ∧ j6 < 5 ∧ (∀ M9 : Mm, M9 = sI M (a + 51) j6 (x7 - x7 / 10 * 10) → (∀ v10 : Int32, v10 = (x7 / 10) → Wv G m_X1_layOn (d + 1) 147 [(0, .ref a), (4, .ref b4), (7, .int v10), (8, .int (x8 + (-1)))] [] X M9 Q)))))) : Wv G m_X1_layOn (d + 1) 147 [(0, .ref a), (4, .ref b4), (7, .int x7), (8, .int x8)] [] X M Q := by
  refine wp_iload 3 dX1_layOn_147 rfl ?_
  refine wp_if_lt (tgt := 177) dX1_layOn_149 (by decide) (fun c1 => ?_) (fun c1 => ?_)
  · replace h := h.1 c1
    refine wp_aload_n 0 dX1_layOn_177 rfl rfl ?_
    refine wp_aload 1 dX1_layOn_178 rfl ?_
    refine wp_getI dX1_layOn_180 fl_RX1_126 rfl (sh4_K hS4) ?_
    obtain ⟨q2, o3, h⟩ := h
    refine wp_cvv dX1_layOn_183 ck_RX1_135 (sh1_K hS) (as := [.int ((mI M b4 7))]) rfl rfl (Nat.le_of_ble_eq_true rfl) o3 (fun M4 o5 => ?_)
    replace h := h M4 o5
    refine wp_iconst (v := 0) dX1_layOn_186 rfl ?_
    refine wp_istore (lo2 := [(8, .int _), (0, .ref _), (4, .ref _), (7, .int _)]) dX1_layOn_187 (by decide) rfl ?_
    exact Wp.sub [1, 2, 0] rfl h
  · replace h := h.2 c1
    refine wp_aload_n 0 dX1_layOn_152 rfl rfl ?_
    refine wp_getR dX1_layOn_153 fl_RX1_38 rfl (sh1_K hS) (sh1_F_weights hS) ?_
    refine wp_iload 3 dX1_layOn_156 rfl ?_
    refine wp_iload 2 dX1_layOn_158 rfl ?_
    refine wp_bipush (v := 10) dX1_layOn_160 rfl ?_
    refine wp_irem dX1_layOn_162 (by decide) ?_
    obtain ⟨j6, o7, o8, h⟩ := h
    refine wp_iast (n := 5) dX1_layOn_163 (sh1_K_weights hS) (sh1_N_weights hS) (by decide) o7 o8 ?_
    refine wp_nm (fun M9 eM9 => ?_)
    replace h := h M9 eM9
    refine wp_iload 2 dX1_layOn_164 rfl ?_
    refine wp_bipush (v := 10) dX1_layOn_166 rfl ?_
    refine wp_idiv dX1_layOn_168 (by decide) ?_
    refine wp_topi (fun v10 ev10 => ?_)
    replace h := h v10 ev10
    refine wp_istore (lo2 := [(7, .int _), (0, .ref _), (4, .ref _), (8, .int _)]) dX1_layOn_169 (by decide) rfl ?_
    refine wp_iinc (v := x8 + (-1)) (lo2 := [(8, .int _), (7, .int _), (0, .ref _), (4, .ref _)]) dX1_layOn_171 (q := 3) rfl rfl (by decide) rfl ?_
    refine wp_goto (tgt := 147) dX1_layOn_174 (by decide) ?_
    exact Wp.sub [2, 3, 1, 0] rfl h
theorem bX1_layOn_189 {G : Gl} {d : Nat} {X : Sh} {M : Mm} {Q : Mm → Prop} {a : Nat} {b4 : Nat} {x8 : Int32} (hS : Sh1 X a) (hS4 : Sh4 X b4) (h : ((5 ≤ x8 → Q M) ∧ (¬ (5 ≤ x8) → (∃ j2 : Nat, x8 = nI j2 ∧ j2 < 5 ∧ (∀ M5 : Mm, M5 = sI M (b4 + 1) j2 (mI M (a + 53) j2) → (∀ M6 : Mm, M6 = sI M5 (a + 50) j2 ((mI M5 (a + 50) j2) + (mI M5 (a + 53) j2)) → Wv G m_X1_layOn (d + 1) 189 [(0, .ref a), (4, .ref b4), (8, .int (x8 + 1))] [] X M6 Q)))))) : Wv G m_X1_layOn (d + 1) 189 [(0, .ref a), (4, .ref b4), (8, .int x8)] [] X M Q := by
  refine wp_iload 2 dX1_layOn_189 rfl ?_
  refine wp_iconst (v := 5) dX1_layOn_191 rfl ?_
  refine wp_icmp_ge (tgt := 233) dX1_layOn_192 (by decide) (fun c1 => ?_) (fun c1 => ?_)
  · replace h := h.1 c1
    exact wv_ret dX1_layOn_233 rfl h
  · replace h := h.2 c1
    refine wp_aload 1 dX1_layOn_195 rfl ?_
    refine wp_getR dX1_layOn_197 fl_RX1_74 rfl (sh4_K hS4) (sh4_F_inRing hS4) ?_
    refine wp_iload 2 dX1_layOn_200 rfl ?_
    refine wp_aload_n 0 dX1_layOn_202 rfl rfl ?_
    refine wp_getR dX1_layOn_203 fl_RX1_45 rfl (sh1_K hS) (sh1_F_parts hS) ?_
    refine wp_iload 2 dX1_layOn_206 rfl ?_
    obtain ⟨j2, o3, o4, h⟩ := h
    refine wp_iald (n := 5) dX1_layOn_208 (sh1_K_parts hS) (sh1_N_parts hS) (by decide) o3 o4 ?_
    refine wp_iast (n := 5) dX1_layOn_209 (sh4_K_inRing hS4) (sh4_N_inRing hS4) (by decide) o3 o4 ?_
    refine wp_nm (fun M5 eM5 => ?_)
    replace h := h M5 eM5
    refine wp_aload_n 0 dX1_layOn_210 rfl rfl ?_
    refine wp_getR dX1_layOn_211 fl_RX1_34 rfl (sh1_K hS) (sh1_F_bulk hS) ?_
    refine wp_iload 2 dX1_layOn_214 rfl ?_
    refine wp_dup2_11 dX1_layOn_216 rfl rfl ?_
    refine wp_iald (n := 5) dX1_layOn_217 (sh1_K_bulk hS) (sh1_N_bulk hS) (by decide) o3 o4 ?_
    refine wp_aload_n 0 dX1_layOn_218 rfl rfl ?_
    refine wp_getR dX1_layOn_219 fl_RX1_45 rfl (sh1_K hS) (sh1_F_parts hS) ?_
    refine wp_iload 2 dX1_layOn_222 rfl ?_
    refine wp_iald (n := 5) dX1_layOn_224 (sh1_K_parts hS) (sh1_N_parts hS) (by decide) o3 o4 ?_
    refine wp_iadd dX1_layOn_225 ?_
    refine wp_iast (n := 5) dX1_layOn_226 (sh1_K_bulk hS) (sh1_N_bulk hS) (by decide) o3 o4 ?_
    refine wp_nm (fun M6 eM6 => ?_)
    replace h := h M6 eM6
    refine wp_iinc (v := x8 + 1) (lo2 := [(8, .int _), (0, .ref _), (4, .ref _)]) dX1_layOn_227 (q := 2) rfl rfl (by decide) rfl ?_
    refine wp_goto (tgt := 189) dX1_layOn_230 (by decide) ?_
    exact Wp.sub [1, 2, 0] rfl h
/-- the charge's layer at la has been laid, its rings p -/
def RingsQ (M : Mm) (a la : Nat) (p : Nat → Int32) (M2 : Mm) : Prop := (∀ r, r < 5 → mI M2 (la + 1) r = p r) ∧ (∀ r, r < 5 → mI M2 (a + 50) r = mI M (a + 50) r + p r) ∧ (∀ c, c ≠ la + 1 → c ≠ a + 50 → c ≠ a + 51 → c ≠ a + 53 → mI M2 c = mI M c) ∧ mR M2 = mR M
theorem cl_layOn_189 (G : Gl) (d : Nat) {X : Sh} {a la : Nat} {Q : Mm → Prop} {p : Nat → Int32} (hS : Sh1 X a) (hb : Sh4 X la) (hab : la + 1 ≠ a + 50) (h53 : la + 1 ≠ a + 53) (M0 : Mm) (hq : ∀ M2, RingsQ M0 a la p M2 → Q M2) :
    ∀ (n i : Nat) (M : Mm), i + n = 5 → (∀ r, r < 5 → mI M (a + 53) r = p r) → (∀ r, r < i → mI M (la + 1) r = p r) → (∀ r, r < i → mI M (a + 50) r = mI M0 (a + 50) r + p r) → (∀ r, i ≤ r → mI M (a + 50) r = mI M0 (a + 50) r) → (∀ c, c ≠ la + 1 → c ≠ a + 50 → c ≠ a + 51 → c ≠ a + 53 → mI M c = mI M0 c) → mR M = mR M0 →
      Wv G m_X1_layOn (d + 1) 189 [(0, .ref a), (4, .ref la), (8, .int (nI i))] [] X M Q
  | 0, i, M, h, h1, h2, h3, _, h4, h5 => by
    have hi : i = 5 := h
    subst hi
    exact bX1_layOn_189 hS hb ⟨fun _ => hq M ⟨h2, h3, h4, h5⟩, fun h => absurd (by decide) h⟩
  | n + 1, i, M, h, h1, h2, h3, h6, h4, h5 => by
    refine bX1_layOn_189 hS hb ⟨fun h2 => absurd h2 (n5 (by omega)), fun _ => ⟨i, rfl, by omega, ?_⟩⟩
    rintro M5 e5 M6 e6
    rw [nI_1]
    have q1 : ∀ c, c ≠ la + 1 → mI M5 c = mI M c := fun c hc => by rw [e5, mI_sI, up2_off _ _ _ hc]
    have q2 : mI M5 (la + 1) = upd (mI M (la + 1)) i (p i) := by rw [e5, mI_sI, up2_row, h1 i (by omega)]
    have q3 : mI M6 (a + 50) = upd (mI M (a + 50)) i (mI M0 (a + 50) i + p i) := by rw [e6, mI_sI, up2_row, q1 _ (Ne.symm hab), q1 _ (Ne.symm h53), h6 i (by omega), h1 i (by omega)]
    have q4 : ∀ c, c ≠ a + 50 → mI M6 c = mI M5 c := fun c hc => by rw [e6, mI_sI, up2_off _ _ _ hc]
    refine cl_layOn_189 G d hS hb hab h53 M0 hq n (i + 1) M6 (by omega) (fun r hr => ?_) (fun r hr => ?_) (fun r hr => ?_) (fun r hr => ?_) (fun c hc1 hc2 hc3 hc4 => ?_) ?_
    · rw [q4 _ (by omega), q1 _ (Ne.symm h53)]
      exact h1 r hr
    · rw [q4 _ hab, q2]
      unfold upd
      split
      · next h => rw [h]
      · exact h2 r (by omega)
    · rw [q3]
      unfold upd
      split
      · next h => rw [h]
      · exact h3 r (by omega)
    · rw [q3]
      unfold upd
      rw [if_neg (by omega)]
      exact h6 r (by omega)
    · rw [q4 _ hc2, q1 _ hc1]
      exact h4 c hc1 hc2 hc3 hc4
    · rw [e6, e5]
      exact h5
theorem cl_layOn_147 (G : Gl) (d : Nat) (hd : 1 ≤ d) {X : Sh} {a la : Nat} {Q : Mm → Prop} {w x7 : Int32} (hS : Sh1 X a) (hb : Sh4 X la) (hab : la + 1 ≠ a + 50) (h53 : la + 1 ≠ a + 53) (h51 : la ≠ a + 51 ∧ la + 1 ≠ a + 51) (M0 : Mm) (hw : mI M0 la 7 = w) (hF : FairW w (fun r => (dgW x7 r).toInt64)) (hq : ∀ M2, RingsQ M0 a la (s_parts w (fun r => (dgW x7 r).toInt64)) M2 → Q M2) :
    ∀ (n i : Nat) (M : Mm), i + n = 5 → (∀ r, n ≤ r → r < 5 → mI M (a + 51) r = dgW x7 r) → (∀ c, c ≠ a + 51 → mI M c = mI M0 c) → mR M = mR M0 → Wv G m_X1_layOn (d + 1) 147 [(0, .ref a), (4, .ref la), (7, .int (dgL x7 i)), (8, .int (nI n + (-1)))] [] X M Q
  | 0, i, M, h, h1, h2, h3 => by
    have e7 : mI M la 7 = w := by
      rw [h2 _ h51.1]
      exact hw
    refine bX1_layOn_147 hS hb ⟨fun _ => ⟨_, cp_X1_partByWeights G d hd X M a (mI M la 7) (fun r => (dgW x7 r).toInt64) hS (fun r hr => by rw [h1 r (Nat.zero_le _) hr]) (by rw [e7]; exact hF), ?_⟩, fun h => absurd (by decide) h⟩
    rintro M4 ⟨h4, h5, h6⟩
    rw [e7] at h4
    refine cl_layOn_189 G d hS hb hab h53 M0 hq 5 0 M4 rfl h4 (fun r hr => absurd hr (by omega)) (fun r hr => absurd hr (by omega)) (fun r _ => ?_) (fun c hc1 hc2 hc3 hc4 => ?_) (h6.trans h3)
    · rw [h5 _ (by omega), h2 _ (by omega)]
    · rw [h5 _ hc4, h2 _ hc3]
  | n + 1, i, M, h, h1, h2, h3 => by
    rw [pk_m1]
    refine bX1_layOn_147 hS hb ⟨fun h4 => absurd h4 (nI_pos (by omega)), fun _ => ⟨n, rfl, by omega, ?_⟩⟩
    rintro M9 rfl v10 rfl
    refine cl_layOn_147 G d hd hS hb hab h53 h51 M0 hw hF hq n (i + 1) _ (by omega) (fun r hr hr5 => ?_) (fun c hc => ?_) h3
    · rw [mI_sI]
      by_cases e : r = n
      · subst e
        rw [up2_same]
        have e2 : i = 4 - r := by omega
        rw [e2]
        rfl
      · rw [up2_k _ _ _ e]
        exact h1 r (by omega) hr5
    · rw [mI_sI, up2_off _ _ _ hc]
      exact h2 c hc
/-- what laying a charge of t tons out of bin b (bins at b1) leaves: the layer's words at la, one more layer -/
def LayQ (M : Mm) (a b1 la b nl : Nat) (t : Int32) (M2 : Mm) : Prop :=
  mI M2 la 0 = nI b ∧ mI M2 la 1 = mI M a 0 ∧ mI M2 la 2 = t ∧ mI M2 la 3 = f_holds (mI M (b1 + 1) b) ∧ mI M2 la 4 = f_iron (mI M (b1 + 1) b) (mI M (b1 + 2) b) t ∧ mI M2 la 5 = f_acid (mI M (b1 + 1) b) (mI M (b1 + 2) b) t ∧ mI M2 la 6 = f_lime (mI M (b1 + 1) b) (mI M (b1 + 2) b) t ∧ mI M2 la 7 = f_bulk (mI M (b1 + 1) b) t ∧ mI M2 la 8 = f_bulk (mI M (b1 + 1) b) t ∧
  (∀ r, r < 5 → mI M2 (la + 1) r = s_parts (f_bulk (mI M (b1 + 1) b) t) (fun r => (dgW (mI M (b1 + 5) b) r).toInt64) r) ∧
  (∀ r, r < 5 → mI M2 (a + 50) r = mI M (a + 50) r + s_parts (f_bulk (mI M (b1 + 1) b) t) (fun r => (dgW (mI M (b1 + 5) b) r).toInt64) r) ∧
  mI M2 a 5 = nI (nl + 1) ∧ (∀ k, k ≠ 5 → mI M2 a k = mI M a k) ∧
  (∀ c, c ≠ a → c ≠ la → c ≠ la + 1 → c ≠ a + 50 → c ≠ a + 51 → c ≠ a + 53 → mI M2 c = mI M c) ∧ mR M2 = mR M
theorem cp_X1_layOn (G : Gl) (d : Nat) (hd : 2 ≤ d) (X : Sh) (M : Mm) (a b1 la b nl : Nat) (t : Int32) (hS : Sh1 X a) (hS1 : Sh0 X b1) (hn : mI M a 5 = nI nl) (hnl : nl < 24) (hr : mR M (a + 1) nl = some la) (hb : Sh4 X la) (hb6 : b < 6) (hla : a + 2 ≤ la ∧ la + 1 < a + 50) (hbb : b1 + 6 < a) (hF : FairW (f_bulk (mI M (b1 + 1) b) t) (fun r => (dgW (mI M (b1 + 5) b) r).toInt64)) : Cv G m_X1_layOn d [.ref a, .ref b1, .int (nI b), .int t] X M (LayQ M a b1 la b nl t) := by
  obtain ⟨d, rfl⟩ : ∃ d1, d = d1 + 1 := ⟨d - 1, by omega⟩
  have hlt : mI M a 5 < 24 := by
    rw [hn]
    exact (nI_ltI (b := 24) (by omega) (by omega)).mpr hnl
  refine Cv.of (by decide) (Nat.le_of_ble_eq_true rfl) (bX1_layOn_0 hS hS1 (by omega) ⟨fun _ => ⟨nl, hn, hnl, la, hr, hb, ?_⟩, fun h => absurd hlt h⟩)
  intro M8 e8
  refine ⟨b, rfl, hb6, ?_⟩
  have w8 : ∀ c, c ≠ a → mI M8 c = mI M c := fun c hc => by rw [e8, mI_sI, up2_off _ _ _ hc]
  intro v12 e12 v13 e13 M14 e14 M15 e15 M16 e16 M17 e17 M18 e18 M19 e19 M20 e20 M21 e21 M22 e22 v23 e23
  rw [w8 _ (by omega)] at e12 e13
  have w22 : ∀ c, c ≠ la → mI M22 c = mI M8 c := fun c hc => by
    rw [e22, e21, e20, e19, e18, e17, e16, e15, e14]
    simp only [mI_sI, up2_off _ _ _ hc]
  rw [w22 _ (by omega), w8 _ (by omega)] at e23
  have g7 : mI M21 la 7 = f_bulk v12 t := by rw [e21, mI_sI, up2_same]
  have g0 : mI M14 a 0 = mI M a 0 := by rw [e14, mI_sI, up2_off _ _ _ (by omega), e8, mI_sI, up2_k _ _ _ (by omega)]
  have f : ∀ k, mI M22 la k = if k = 8 then f_bulk v12 t else if k = 7 then f_bulk v12 t else if k = 6 then f_lime v12 v13 t else if k = 5 then f_acid v12 v13 t else if k = 4 then f_iron v12 v13 t else if k = 3 then f_holds v12 else if k = 2 then t else if k = 1 then mI M a 0 else if k = 0 then nI b else mI M8 la k := fun k => by
    rw [e22, g7, e21, e20, e19, e18, e17, e16, e15, g0, e14]
    simp only [mI_sI, up2, true_and]
  have hR : mR M22 = mR M := by rw [e22, e21, e20, e19, e18, e17, e16, e15, e14, e8]; rfl
  rw [← e12, ← e23] at hF
  have h := cl_layOn_147 G d (by omega) (X := X) (a := a) (la := la) (w := f_bulk v12 t) (x7 := v23) (Q := LayQ M a b1 la b nl t) hS hb (by omega) (by omega) (by omega) M22 (by rw [f]; rfl) hF (fun M2 h2 => ?_) 5 0 M22 rfl (fun r h1 h2 => absurd h1 (by omega)) (fun _ _ => rfl) rfl
  · exact h
  · obtain ⟨p1, p2, p3, p4⟩ := h2
    have fl : mI M2 la = mI M22 la := p3 _ (by omega) (by omega) (by omega) (by omega)
    have fa : mI M2 a = mI M8 a := (p3 _ (by omega) (by omega) (by omega) (by omega)).trans (w22 _ (by omega))
    unfold LayQ
    rw [fl, ← e12, ← e13, ← e23]
    refine ⟨by rw [f]; rfl, by rw [f]; rfl, by rw [f]; rfl, by rw [f]; rfl, by rw [f]; rfl, by rw [f]; rfl, by rw [f]; rfl, by rw [f]; rfl, by rw [f]; rfl, p1, fun r hr => ?_, ?_, fun k hk => ?_, fun c h1 h2 h3 h4 h5 h6 => ?_, p4.trans hR⟩
    · rw [p2 r hr, w22 _ (by omega), w8 _ (by omega)]
    · rw [fa, e8, mI_sI, up2_same, hn, nI_1]
    · rw [fa, e8, mI_sI, up2_k _ _ _ hk]
    · rw [p3 c h3 h4 h5 h6, w22 _ h2, w8 _ h1]
