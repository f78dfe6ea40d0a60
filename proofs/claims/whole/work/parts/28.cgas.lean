/-! the class's house: what its texts give -/
theorem nm_7 {c : Nat} (h : nm_ok 7 c) : c = 104 ∨ c = 99 := by
  obtain ⟨h1, h2⟩ := h
  have q : ∀ k : Nat, k < 128 → nI c = nI k → c = k := fun k hk e => (nI_inj (by omega) (by omega)).mp e
  unfold p_isName at h2
  rw [if_neg (by decide), if_pos rfl] at h2
  rcases h2 with h | h
  · exact Or.inl (q 104 (by omega) h)
  · exact Or.inr (q 99 (by omega) h)
theorem nm_d {v c : Nat} (hv : v ≤ 5) (h : nm_ok (nI v) c) : c = 104 ∨ c = 116 ∨ c = 98 ∨ c = 115 := by
  obtain ⟨h1, h2⟩ := h
  have q : ∀ k : Nat, k < 128 → nI c = nI k → c = k := fun k hk e => (nI_inj (by omega) (by omega)).mp e
  have n6 : ¬ nI v = 6 := fun e => by
    have := (nI_inj (b := 6) (by omega) (by omega)).mp e
    omega
  have n7 : ¬ nI v = 7 := fun e => by
    have := (nI_inj (b := 7) (by omega) (by omega)).mp e
    omega
  unfold p_isName at h2
  rw [if_neg n6, if_neg n7] at h2
  rcases h2 with h | h | h | h
  · exact Or.inl (q 104 (by omega) h)
  · exact Or.inr (Or.inl (q 116 (by omega) h))
  · exact Or.inr (Or.inr (Or.inl (q 98 (by omega) h)))
  · exact Or.inr (Or.inr (Or.inr (q 115 (by omega) h)))
def e_draw (σ : Nat → Int32) (nl b : Nat) (c : Nat) : Int32 := if c = 104 then σ 5 else if c = 116 then s_great (s_top σ nl) 5 else if c = 98 then f_basic (σ 11) (σ 10) else if c = 115 then σ (23 + 5 * b) else 0
def s_draw (σ : Nat → Int32) (nl nx b : Nat) : Int32 := if s_counts σ (nI b) nx < 0 then 0 else if σ (23 + 5 * b) ≤ f_heldIn (s_worth σ (s_counts σ (nI b) nx).toNatClampNeg (e_draw σ nl b)) 999 then σ (23 + 5 * b) else f_heldIn (s_worth σ (s_counts σ (nI b) nx).toNatClampNeg (e_draw σ nl b)) 999
def e_late (σ : Nat → Int32) (v : Int32) (c : Nat) : Int32 := if c = 104 then σ 5 else if c = 99 then v else 0
def s_late (σ : Nat → Int32) (nx : Nat) (v : Int32) : Int32 := if s_counts σ 7 nx < 0 then 0 else f_heldIn (s_worth σ (s_counts σ 7 nx).toNatClampNeg (e_late σ v)) 999
/-- texts' scratch apart nothing has changed -/
def OffT (h : Nat) (M M2 : Mm) : Prop := (∀ c, c ≠ h + 80 → c ≠ h + 81 → mI M2 c = mI M c) ∧ mR M2 = mR M
theorem OffT.refl (h : Nat) (M : Mm) : OffT h M M := ⟨fun _ _ _ => rfl, rfl⟩
theorem OffT.name {h j : Nat} {M0 M M2 : Mm} {v : Int32} (h1 : OffT h M0 M) (e : M2 = sI M (h + 62 + 18) j v) : OffT h M0 M2 := by
  refine ⟨fun c h2 h3 => ?_, ?_⟩
  · rw [e, mI_sI, up2_off _ _ _ (by omega)]
    exact h1.1 c h2 h3
  · rw [e]
    exact h1.2
theorem TRep.mem {M M2 : Mm} {a nx : Nat} {σ : Nat → Int32} (h : TRep M a σ nx) (hnx : nx ≤ 12) (e : ∀ c, a ≤ c → c ≤ a + 17 → mI M2 c = mI M c) : TRep M2 a σ nx := by
  refine ⟨by rw [e a (by omega) (by omega)]; exact h.1, fun t ht => ?_⟩
  have := h.2 t ht
  unfold TXt
  rw [e (a + 1) (by omega) (by omega), e (a + 2) (by omega) (by omega), e (a + 3) (by omega) (by omega), e (a + 17) (by omega) (by omega), e (a + 5 + t) (by omega) (by omega)]
  exact this
theorem FR.great {M : Mm} {f nl : Nat} {σ : Nat → Int32} {la : Nat → Nat} (h : FR M f σ nl la) : s_great (c_top (mI M (f + 50))) 5 = s_great (s_top σ nl) 5 := by
  have e : ∀ n, n ≤ 5 → s_great (c_top (mI M (f + 50))) n = s_great (s_top σ nl) n := by
    intro n
    induction n with
    | zero => exact fun _ => rfl
    | succ n ih =>
      intro hn
      have e2 : c_top (mI M (f + 50)) n = s_top σ nl n := by
        show mI M (f + 50) n * 100 / areaV n = s_bulkIn σ n nl * 100 / areaV n
        rw [h.2.1.2.2.2.2.2 n (by omega)]
      show (if s_great (c_top (mI M (f + 50))) n < c_top (mI M (f + 50)) n then c_top (mI M (f + 50)) n else s_great (c_top (mI M (f + 50))) n) = (if s_great (s_top σ nl) n < s_top σ nl n then s_top σ nl n else s_great (s_top σ nl) n)
      rw [ih (by omega), e2]
  exact e 5 (Nat.le_refl _)
theorem held_nat (v : Int32) : ∃ g : Nat, g ≤ 999 ∧ f_heldIn v 999 = nI g := by
  unfold f_heldIn
  split
  · exact ⟨0, by omega, rfl⟩
  · split
    · exact ⟨999, by omega, rfl⟩
    · next h1 h2 =>
      obtain ⟨j, hj, rfl⟩ := nI_of h1
      refine ⟨j, ?_, rfl⟩
      have := (nI_leI (b := 999) (by omega) (by omega)).mp (i_nlt.mp h2)
      exact this
theorem counts_neg {σ : Nat → Int32} {key : Int32} {n t : Nat} (ht : t < n) (hn : n ≤ 12) (h : s_counts σ key n = nI t) : ¬ s_counts σ key n < 0 := by
  rw [h]
  exact nI_pos (by omega)
theorem bX2_gasFor_0 {G : Gl} {d : Nat} {X : Sh} {M : Mm} {Q : Mm → Int32 → Prop} {a : Nat} {b1 : Nat} (hS : Sh2 X a) (hS1 : Sh1 X b1) (hd : 1 ≤ d) (h : (∃ q1 : Mm → Int32 → Prop, Cn G m_X9_lastOf d [.ref (a + 62), .int 1, .int 0] X M q1 ∧ ∀ M3 r4, q1 M3 r4 → ((0 ≤ r4 → (∃ q7 : Mm → Prop, Cv G m_X9_name d [.ref (a + 62), .int 104, .int ((mI M3 b1 0))] X M3 q7 ∧ ∀ M9, q7 M9 → (∃ q11 : Mm → Int32 → Prop, Cn G m_X1_greatestTop d [.ref b1] X M9 q11 ∧ ∀ M13 r14, q11 M13 r14 → (∃ q16 : Mm → Prop, Cv G m_X9_name d [.ref (a + 62), .int 116, .int r14] X M13 q16 ∧ ∀ M18, q16 M18 → (∃ q20 : Mm → Prop, Cv G m_X9_name d [.ref (a + 62), .int 105, .int ((mI M18 b1 1))] X M18 q20 ∧ ∀ M22, q20 M22 → (∃ q24 : Mm → Int32 → Prop, Cn G m_X9_worth d [.ref (a + 62), .int r4] X M22 q24 ∧ ∀ M26 r27, q24 M26 r27 → Q M26 (f_held r27))))))) ∧ (¬ (0 ≤ r4) → Q M3 (mI M3 (a + 85) 1))))) : Wn G m_X2_gasFor (d + 1) 0 [(0, .ref a), (1, .ref b1)] [] X M Q := by
  refine wp_aload_n 0 dX2_gasFor_0 rfl rfl ?_
  refine wp_getR dX2_gasFor_1 fl_RX2_28 rfl (sh2_K hS) (sh2_F_texts hS) ?_
  refine wp_iconst (v := 1) dX2_gasFor_4 rfl ?_
  refine wp_iconst (v := 0) dX2_gasFor_5 rfl ?_
  obtain ⟨q1, o2, h⟩ := h
  refine wp_cvi dX2_gasFor_6 ck_RX2_70 (sh8_K (sh2_S_texts hS)) (as := [.int 1, .int 0]) rfl rfl (Nat.le_of_ble_eq_true rfl) o2 (fun M3 r4 o5 => ?_)
  replace h := h M3 r4 o5
  refine wp_istore_n (lo2 := [(2, .int _), (0, .ref _), (1, .ref _)]) dX2_gasFor_9 rfl (by decide) rfl ?_
  refine wp_iload_n 0 dX2_gasFor_10 rfl rfl ?_
  refine wp_if_ge (tgt := 21) dX2_gasFor_11 (by decide) (fun c6 => ?_) (fun c6 => ?_)
  · replace h := h.1 c6
    refine wp_aload_n 1 dX2_gasFor_21 rfl rfl ?_
    refine wp_getR dX2_gasFor_22 fl_RX2_28 rfl (sh2_K hS) (sh2_F_texts hS) ?_
    refine wp_bipush (v := 104) dX2_gasFor_25 rfl ?_
    refine wp_aload_n 2 dX2_gasFor_27 rfl rfl ?_
    refine wp_getI dX2_gasFor_28 fl_RX2_74 rfl (sh1_K hS1) ?_
    obtain ⟨q7, o8, h⟩ := h
    refine wp_cvv dX2_gasFor_31 ck_RX2_78 (sh8_K (sh2_S_texts hS)) (as := [.int 104, .int ((mI M3 b1 0))]) rfl rfl (Nat.le_of_ble_eq_true rfl) o8 (fun M9 o10 => ?_)
    replace h := h M9 o10
    refine wp_aload_n 1 dX2_gasFor_34 rfl rfl ?_
    refine wp_getR dX2_gasFor_35 fl_RX2_28 rfl (sh2_K hS) (sh2_F_texts hS) ?_
    refine wp_bipush (v := 116) dX2_gasFor_38 rfl ?_
    refine wp_aload_n 2 dX2_gasFor_40 rfl rfl ?_
    obtain ⟨q11, o12, h⟩ := h
    refine wp_cvi dX2_gasFor_41 ck_RX2_82 (sh1_K hS1) (as := []) rfl rfl (Nat.le_of_ble_eq_true rfl) o12 (fun M13 r14 o15 => ?_)
    replace h := h M13 r14 o15
    obtain ⟨q16, o17, h⟩ := h
    refine wp_cvv dX2_gasFor_44 ck_RX2_78 (sh8_K (sh2_S_texts hS)) (as := [.int 116, .int r14]) rfl rfl (Nat.le_of_ble_eq_true rfl) o17 (fun M18 o19 => ?_)
    replace h := h M18 o19
    refine wp_aload_n 1 dX2_gasFor_47 rfl rfl ?_
    refine wp_getR dX2_gasFor_48 fl_RX2_28 rfl (sh2_K hS) (sh2_F_texts hS) ?_
    refine wp_bipush (v := 105) dX2_gasFor_51 rfl ?_
    refine wp_aload_n 2 dX2_gasFor_53 rfl rfl ?_
    refine wp_getI dX2_gasFor_54 fl_RX2_86 rfl (sh1_K hS1) ?_
    obtain ⟨q20, o21, h⟩ := h
    refine wp_cvv dX2_gasFor_57 ck_RX2_78 (sh8_K (sh2_S_texts hS)) (as := [.int 105, .int ((mI M18 b1 1))]) rfl rfl (Nat.le_of_ble_eq_true rfl) o21 (fun M22 o23 => ?_)
    replace h := h M22 o23
    refine wp_aload_n 1 dX2_gasFor_60 rfl rfl ?_
    refine wp_getR dX2_gasFor_61 fl_RX2_28 rfl (sh2_K hS) (sh2_F_texts hS) ?_
    refine wp_iload_n 0 dX2_gasFor_64 rfl rfl ?_
    obtain ⟨q24, o25, h⟩ := h
    refine wp_cvi dX2_gasFor_65 ck_RX2_89 (sh8_K (sh2_S_texts hS)) (as := [.int r4]) rfl rfl (Nat.le_of_ble_eq_true rfl) o25 (fun M26 r27 o28 => ?_)
    replace h := h M26 r27 o28
    refine wp_cnip dX2_gasFor_68 ck_RX2_93 (as := [.int r27]) rfl rfl (Nat.le_of_ble_eq_true rfl) (cp_X10_heldWithin999 G d (by omega) X M26 r27) ?_
    exact wn_iret dX2_gasFor_71 rfl h
  · replace h := h.2 c6
    refine wp_aload_n 1 dX2_gasFor_14 rfl rfl ?_
    refine wp_getR dX2_gasFor_15 fl_RX2_39 rfl (sh2_K hS) (sh2_F_rules hS) ?_
    refine wp_iconst (v := 1) dX2_gasFor_18 rfl ?_
    refine wp_iald (n := 3) dX2_gasFor_19 (sh2_K_rules hS) (sh2_N_rules hS) (by decide) rfl (by decide) ?_
    exact wn_iret dX2_gasFor_20 rfl h
theorem bX2_lateFor_0 {G : Gl} {d : Nat} {X : Sh} {M : Mm} {Q : Mm → Int32 → Prop} {a : Nat} {x1 : Int32} (hS : Sh2 X a) (hd : 1 ≤ d) (h : (∃ q1 : Mm → Int32 → Prop, Cn G m_X9_lastOf d [.ref (a + 62), .int 2, .int 0] X M q1 ∧ ∀ M3 r4, q1 M3 r4 → ((0 ≤ r4 → (∃ q7 : Mm → Prop, Cv G m_X9_name d [.ref (a + 62), .int 104, .int ((mI M3 (a + 8) 0))] X M3 q7 ∧ ∀ M9, q7 M9 → (∃ q11 : Mm → Prop, Cv G m_X9_name d [.ref (a + 62), .int 99, .int x1] X M9 q11 ∧ ∀ M13, q11 M13 → (∃ q15 : Mm → Int32 → Prop, Cn G m_X9_worth d [.ref (a + 62), .int r4] X M13 q15 ∧ ∀ M17 r18, q15 M17 r18 → Q M17 (f_held r18))))) ∧ (¬ (0 ≤ r4) → Q M3 0)))) : Wn G m_X2_lateFor (d + 1) 0 [(0, .ref a), (1, .int x1)] [] X M Q := by
  refine wp_aload_n 0 dX2_lateFor_0 rfl rfl ?_
  refine wp_getR dX2_lateFor_1 fl_RX2_28 rfl (sh2_K hS) (sh2_F_texts hS) ?_
  refine wp_iconst (v := 2) dX2_lateFor_4 rfl ?_
  refine wp_iconst (v := 0) dX2_lateFor_5 rfl ?_
  obtain ⟨q1, o2, h⟩ := h
  refine wp_cvi dX2_lateFor_6 ck_RX2_70 (sh8_K (sh2_S_texts hS)) (as := [.int 2, .int 0]) rfl rfl (Nat.le_of_ble_eq_true rfl) o2 (fun M3 r4 o5 => ?_)
  replace h := h M3 r4 o5
  refine wp_istore_n (lo2 := [(2, .int _), (0, .ref _), (1, .int _)]) dX2_lateFor_9 rfl (by decide) rfl ?_
  refine wp_iload_n 0 dX2_lateFor_10 rfl rfl ?_
  refine wp_if_ge (tgt := 16) dX2_lateFor_11 (by decide) (fun c6 => ?_) (fun c6 => ?_)
  · replace h := h.1 c6
    refine wp_aload_n 1 dX2_lateFor_16 rfl rfl ?_
    refine wp_getR dX2_lateFor_17 fl_RX2_28 rfl (sh2_K hS) (sh2_F_texts hS) ?_
    refine wp_bipush (v := 104) dX2_lateFor_20 rfl ?_
    refine wp_aload_n 1 dX2_lateFor_22 rfl rfl ?_
    refine wp_getR dX2_lateFor_23 fl_RX2_21 rfl (sh2_K hS) (sh2_F_furnace hS) ?_
    refine wp_getI dX2_lateFor_26 fl_RX2_74 rfl (sh1_K (sh2_S_furnace hS)) ?_
    obtain ⟨q7, o8, h⟩ := h
    refine wp_cvv dX2_lateFor_29 ck_RX2_78 (sh8_K (sh2_S_texts hS)) (as := [.int 104, .int ((mI M3 (a + 8) 0))]) rfl rfl (Nat.le_of_ble_eq_true rfl) o8 (fun M9 o10 => ?_)
    replace h := h M9 o10
    refine wp_aload_n 1 dX2_lateFor_32 rfl rfl ?_
    refine wp_getR dX2_lateFor_33 fl_RX2_28 rfl (sh2_K hS) (sh2_F_texts hS) ?_
    refine wp_bipush (v := 99) dX2_lateFor_36 rfl ?_
    refine wp_iload_n 2 dX2_lateFor_38 rfl rfl ?_
    obtain ⟨q11, o12, h⟩ := h
    refine wp_cvv dX2_lateFor_39 ck_RX2_78 (sh8_K (sh2_S_texts hS)) (as := [.int 99, .int x1]) rfl rfl (Nat.le_of_ble_eq_true rfl) o12 (fun M13 o14 => ?_)
    replace h := h M13 o14
    refine wp_aload_n 1 dX2_lateFor_42 rfl rfl ?_
    refine wp_getR dX2_lateFor_43 fl_RX2_28 rfl (sh2_K hS) (sh2_F_texts hS) ?_
    refine wp_iload_n 0 dX2_lateFor_46 rfl rfl ?_
    obtain ⟨q15, o16, h⟩ := h
    refine wp_cvi dX2_lateFor_47 ck_RX2_89 (sh8_K (sh2_S_texts hS)) (as := [.int r4]) rfl rfl (Nat.le_of_ble_eq_true rfl) o16 (fun M17 r18 o19 => ?_)
    replace h := h M17 r18 o19
    refine wp_cnip dX2_lateFor_50 ck_RX2_93 (as := [.int r18]) rfl rfl (Nat.le_of_ble_eq_true rfl) (cp_X10_heldWithin999 G d (by omega) X M17 r18) ?_
    exact wn_iret dX2_lateFor_53 rfl h
  · replace h := h.2 c6
    refine wp_iconst (v := 0) dX2_lateFor_14 rfl ?_
    exact wn_iret dX2_lateFor_15 rfl h
theorem bX2_drawFor_0 {G : Gl} {d : Nat} {X : Sh} {M : Mm} {Q : Mm → Int32 → Prop} {a : Nat} {x1 : Int32} (hS : Sh2 X a) (hd : 1 ≤ d) (h : (∃ q1 : Mm → Int32 → Prop, Cn G m_X9_lastOf d [.ref (a + 62), .int 0, .int x1] X M q1 ∧ ∀ M3 r4, q1 M3 r4 → ((0 ≤ r4 → (∃ q7 : Mm → Prop, Cv G m_X9_name d [.ref (a + 62), .int 104, .int ((mI M3 (a + 8) 0))] X M3 q7 ∧ ∀ M9, q7 M9 → (∃ q11 : Mm → Int32 → Prop, Cn G m_X1_greatestTop d [.ref (a + 8)] X M9 q11 ∧ ∀ M13 r14, q11 M13 r14 → (∃ q16 : Mm → Prop, Cv G m_X9_name d [.ref (a + 62), .int 116, .int r14] X M13 q16 ∧ ∀ M18, q16 M18 → (∃ q20 : Mm → Prop, Cv G m_X9_name d [.ref (a + 62), .int 98, .int ((f_basic (mI M18 (a + 8) 3) (mI M18 (a + 8) 2)))] X M18 q20 ∧ ∀ M22, q20 M22 → (∃ j24 : Nat, x1 = nI j24 ∧ j24 < 6 ∧ (∃ q27 : Mm → Prop, Cv G m_X9_name d [.ref (a + 62), .int 115, .int ((mI M22 ((a + 1) + 4) j24))] X M22 q27 ∧ ∀ M29, q27 M29 → (∃ q31 : Mm → Int32 → Prop, Cn G m_X9_worth d [.ref (a + 62), .int r4] X M29 q31 ∧ ∀ M33 r34, q31 M33 r34 → Q M33 (if (mI M33 ((a + 1) + 4) j24) < (f_held r34) then (mI M33 ((a + 1) + 4) j24) else (f_held r34)))))))))) ∧ (¬ (0 ≤ r4) → Q M3 0)))) : Wn G m_X2_drawFor (d + 1) 0 [(0, .ref a), (1, .int x1)] [] X M Q := by
  refine wp_aload_n 0 dX2_drawFor_0 rfl rfl ?_
  refine wp_getR dX2_drawFor_1 fl_RX2_28 rfl (sh2_K hS) (sh2_F_texts hS) ?_
  refine wp_iconst (v := 0) dX2_drawFor_4 rfl ?_
  refine wp_iload_n 1 dX2_drawFor_5 rfl rfl ?_
  obtain ⟨q1, o2, h⟩ := h
  refine wp_cvi dX2_drawFor_6 ck_RX2_70 (sh8_K (sh2_S_texts hS)) (as := [.int 0, .int x1]) rfl rfl (Nat.le_of_ble_eq_true rfl) o2 (fun M3 r4 o5 => ?_)
  replace h := h M3 r4 o5
  refine wp_istore_n (lo2 := [(2, .int _), (0, .ref _), (1, .int _)]) dX2_drawFor_9 rfl (by decide) rfl ?_
  refine wp_iload_n 0 dX2_drawFor_10 rfl rfl ?_
  refine wp_if_ge (tgt := 16) dX2_drawFor_11 (by decide) (fun c6 => ?_) (fun c6 => ?_)
  · replace h := h.1 c6
    refine wp_aload_n 1 dX2_drawFor_16 rfl rfl ?_
    refine wp_getR dX2_drawFor_17 fl_RX2_28 rfl (sh2_K hS) (sh2_F_texts hS) ?_
    refine wp_bipush (v := 104) dX2_drawFor_20 rfl ?_
    refine wp_aload_n 1 dX2_drawFor_22 rfl rfl ?_
    refine wp_getR dX2_drawFor_23 fl_RX2_21 rfl (sh2_K hS) (sh2_F_furnace hS) ?_
    refine wp_getI dX2_drawFor_26 fl_RX2_74 rfl (sh1_K (sh2_S_furnace hS)) ?_
    obtain ⟨q7, o8, h⟩ := h
    refine wp_cvv dX2_drawFor_29 ck_RX2_78 (sh8_K (sh2_S_texts hS)) (as := [.int 104, .int ((mI M3 (a + 8) 0))]) rfl rfl (Nat.le_of_ble_eq_true rfl) o8 (fun M9 o10 => ?_)
    replace h := h M9 o10
    refine wp_aload_n 1 dX2_drawFor_32 rfl rfl ?_
    refine wp_getR dX2_drawFor_33 fl_RX2_28 rfl (sh2_K hS) (sh2_F_texts hS) ?_
    refine wp_bipush (v := 116) dX2_drawFor_36 rfl ?_
    refine wp_aload_n 1 dX2_drawFor_38 rfl rfl ?_
    refine wp_getR dX2_drawFor_39 fl_RX2_21 rfl (sh2_K hS) (sh2_F_furnace hS) ?_
    obtain ⟨q11, o12, h⟩ := h
    refine wp_cvi dX2_drawFor_42 ck_RX2_82 (sh1_K (sh2_S_furnace hS)) (as := []) rfl rfl (Nat.le_of_ble_eq_true rfl) o12 (fun M13 r14 o15 => ?_)
    replace h := h M13 r14 o15
    obtain ⟨q16, o17, h⟩ := h
    refine wp_cvv dX2_drawFor_45 ck_RX2_78 (sh8_K (sh2_S_texts hS)) (as := [.int 116, .int r14]) rfl rfl (Nat.le_of_ble_eq_true rfl) o17 (fun M18 o19 => ?_)
    replace h := h M18 o19
    refine wp_aload_n 1 dX2_drawFor_48 rfl rfl ?_
    refine wp_getR dX2_drawFor_49 fl_RX2_28 rfl (sh2_K hS) (sh2_F_texts hS) ?_
    refine wp_bipush (v := 98) dX2_drawFor_52 rfl ?_
    refine wp_aload_n 1 dX2_drawFor_54 rfl rfl ?_
    refine wp_getR dX2_drawFor_55 fl_RX2_21 rfl (sh2_K hS) (sh2_F_furnace hS) ?_
    refine wp_cvip dX2_drawFor_58 ck_RX2_110 (sh1_K (sh2_S_furnace hS)) (as := []) rfl rfl (Nat.le_of_ble_eq_true rfl) (cp_X1_basic G d (by omega) X M18 (a + 8) (sh2_S_furnace hS)) ?_
    obtain ⟨q20, o21, h⟩ := h
    refine wp_cvv dX2_drawFor_61 ck_RX2_78 (sh8_K (sh2_S_texts hS)) (as := [.int 98, .int ((f_basic (mI M18 (a + 8) 3) (mI M18 (a + 8) 2)))]) rfl rfl (Nat.le_of_ble_eq_true rfl) o21 (fun M22 o23 => ?_)
    replace h := h M22 o23
    refine wp_aload_n 1 dX2_drawFor_64 rfl rfl ?_
    refine wp_getR dX2_drawFor_65 fl_RX2_28 rfl (sh2_K hS) (sh2_F_texts hS) ?_
    refine wp_bipush (v := 115) dX2_drawFor_68 rfl ?_
    refine wp_aload_n 1 dX2_drawFor_70 rfl rfl ?_
    refine wp_getR dX2_drawFor_71 fl_RX2_12 rfl (sh2_K hS) (sh2_F_bins hS) ?_
    refine wp_getR dX2_drawFor_74 fl_RX2_113 rfl (sh0_K (sh2_S_bins hS)) (sh0_F_tons (sh2_S_bins hS)) ?_
    refine wp_iload_n 2 dX2_drawFor_77 rfl rfl ?_
    obtain ⟨j24, o25, o26, h⟩ := h
    refine wp_iald (n := 6) dX2_drawFor_78 (sh0_K_tons (sh2_S_bins hS)) (sh0_N_tons (sh2_S_bins hS)) (by decide) o25 o26 ?_
    obtain ⟨q27, o28, h⟩ := h
    refine wp_cvv dX2_drawFor_79 ck_RX2_78 (sh8_K (sh2_S_texts hS)) (as := [.int 115, .int ((mI M22 ((a + 1) + 4) j24))]) rfl rfl (Nat.le_of_ble_eq_true rfl) o28 (fun M29 o30 => ?_)
    replace h := h M29 o30
    refine wp_aload_n 1 dX2_drawFor_82 rfl rfl ?_
    refine wp_getR dX2_drawFor_83 fl_RX2_28 rfl (sh2_K hS) (sh2_F_texts hS) ?_
    refine wp_iload_n 0 dX2_drawFor_86 rfl rfl ?_
    obtain ⟨q31, o32, h⟩ := h
    refine wp_cvi dX2_drawFor_87 ck_RX2_89 (sh8_K (sh2_S_texts hS)) (as := [.int r4]) rfl rfl (Nat.le_of_ble_eq_true rfl) o32 (fun M33 r34 o35 => ?_)
    replace h := h M33 r34 o35
    refine wp_cnip dX2_drawFor_90 ck_RX2_93 (as := [.int r34]) rfl rfl (Nat.le_of_ble_eq_true rfl) (cp_X10_heldWithin999 G d (by omega) X M33 r34) ?_
    refine wp_aload_n 1 dX2_drawFor_93 rfl rfl ?_
    refine wp_getR dX2_drawFor_94 fl_RX2_12 rfl (sh2_K hS) (sh2_F_bins hS) ?_
    refine wp_getR dX2_drawFor_97 fl_RX2_113 rfl (sh0_K (sh2_S_bins hS)) (sh0_F_tons (sh2_S_bins hS)) ?_
    refine wp_iload_n 2 dX2_drawFor_100 rfl rfl ?_
    refine wp_iald (n := 6) dX2_drawFor_101 (sh0_K_tons (sh2_S_bins hS)) (sh0_N_tons (sh2_S_bins hS)) (by decide) o25 o26 ?_
    refine wp_mmin dX2_drawFor_102 ml_RX2_116 ms_min mi_Math mc_min (Nat.le_of_ble_eq_true rfl) (Nat.le_refl _) (Nat.le_refl _) ?_
    exact wn_iret dX2_drawFor_105 rfl h
  · replace h := h.2 c6
    refine wp_iconst (v := 0) dX2_drawFor_14 rfl ?_
    exact wn_iret dX2_drawFor_15 rfl h
theorem cp_X2_gasFor (G : Gl) (d : Nat) (hd : 2 ≤ d) (X : Sh) (M : Mm) (h f nl nx : Nat) (σ : Nat → Int32) (la : Nat → Nat) (hS : Sh2 X h) (hSf : Sh1 X f) (hfar : f + 50 < h + 62 ∨ h + 81 < f) (hnl : nl ≤ 24) (hnx : nx ≤ 12) (hT : TRep M (h + 62) σ nx) (hF : FR M f σ nl la) (hr : mI M (h + 85) 1 = σ 7) :
    Cn G m_X2_gasFor d [.ref h, .ref f] X M (fun M2 x => x = s_gas σ nl nx ∧ OffT h M M2) := by
  obtain ⟨d, rfl⟩ : ∃ d1, d = d1 + 1 := ⟨d - 1, by omega⟩
  have hS9 := sh2_S_texts hS
  refine Cn.of (by decide) (Nat.le_of_ble_eq_true rfl) (bX2_gasFor_0 hS hSf (by omega) ⟨_, cp_X9_lastOf G d X M (h + 62) nx 6 1 0 σ hS9 hnx hT (Or.inr (Or.inl ⟨rfl, rfl⟩)), ?_⟩)
  rintro M3 r4 ⟨e, e4⟩
  have e := e.symm
  subst e
  have e4 : r4 = s_counts σ 6 nx := e4
  rcases s_counts_spec σ 6 nx with h1 | ⟨t, h1, h2, h3⟩
  · rw [h1] at e4
    subst e4
    refine ⟨fun h => absurd h (by decide), fun _ => ⟨?_, OffT.refl _ _⟩⟩
    unfold s_gas
    rw [h1, if_pos (by decide), hr]
  · rw [h2] at e4
    subst e4
    refine ⟨fun _ => ⟨_, cp_X9_name G d X M (h + 62) 104 _ hS9 (by omega) (by omega), ?_⟩, fun h => absurd (nI_pos' (by omega)) h⟩
    intro M9 e9
    have o9 := (OffT.refl h M).name e9
    have F9 : FR M9 f σ nl la := hF.mem hnl (fun c h4 h5 => o9.1 c (by omega) (by omega)) (by rw [o9.2])
    refine ⟨_, cp_X1_greatestTop G d (by omega) X M9 f hSf, ?_⟩
    rintro M13 r14 ⟨e, e14⟩
    have e := e.symm
    subst e
    rw [F9.great] at e14
    refine ⟨_, cp_X9_name G d X M9 (h + 62) 116 _ hS9 (by omega) (by omega), ?_⟩
    intro M18 e18
    have o18 := o9.name e18
    refine ⟨_, cp_X9_name G d X M18 (h + 62) 105 _ hS9 (by omega) (by omega), ?_⟩
    intro M22 e22
    have o22 := o18.name e22
    have T22 : TRep M22 (h + 62) σ nx := hT.mem hnx (fun c h4 h5 => o22.1 c (by omega) (by omega))
    refine ⟨_, cp_X9_worth G d (by omega) X M22 (h + 62) t σ (e_gas σ nl) hS9 (by omega) (T22.2 t h1) (fun c hc => ?_), ?_⟩
    · rw [h3] at hc
      have w5 : mI M f 0 = σ 5 := hF.2.1.1
      have w9 : mI M18 f 1 = σ 9 := by rw [o18.1 f (by omega) (by omega), hF.2.1.2.1]
      rw [w9] at e22
      rw [w5] at e9
      rw [e22, e18, e9, e14]
      rcases nm_6 hc with rfl | rfl | rfl
      · simp [mI_sI, up2, e_gas]
      · simp [mI_sI, up2, e_gas]
      · simp [mI_sI, up2, e_gas]
    · rintro M26 r27 ⟨e27, o26, r26⟩
      refine ⟨?_, fun c h4 h5 => (o26 c (by omega)).trans (o22.1 c h4 h5), r26.trans o22.2⟩
      unfold s_gas
      rw [if_neg (counts_neg h1 hnx h2), h2, nI_clamp (by omega), e27]
      rfl
theorem cp_X2_lateFor (G : Gl) (d : Nat) (hd : 2 ≤ d) (X : Sh) (M : Mm) (h nl nx : Nat) (σ : Nat → Int32) (la : Nat → Nat) (v : Int32) (hS : Sh2 X h) (hnx : nx ≤ 12) (hT : TRep M (h + 62) σ nx) (hF : FR M (h + 8) σ nl la) :
    Cn G m_X2_lateFor d [.ref h, .int v] X M (fun M2 x => x = s_late σ nx v ∧ OffT h M M2) := by
  obtain ⟨d, rfl⟩ : ∃ d1, d = d1 + 1 := ⟨d - 1, by omega⟩
  have hS9 := sh2_S_texts hS
  refine Cn.of (by decide) (Nat.le_of_ble_eq_true rfl) (bX2_lateFor_0 hS (by omega) ⟨_, cp_X9_lastOf G d X M (h + 62) nx 7 2 0 σ hS9 hnx hT (Or.inr (Or.inr ⟨rfl, rfl⟩)), ?_⟩)
  rintro M3 r4 ⟨e, e4⟩
  have e := e.symm
  subst e
  have e4 : r4 = s_counts σ 7 nx := e4
  rcases s_counts_spec σ 7 nx with h1 | ⟨t, h1, h2, h3⟩
  · rw [h1] at e4
    subst e4
    refine ⟨fun h => absurd h (by decide), fun _ => ⟨?_, OffT.refl _ _⟩⟩
    unfold s_late
    rw [h1, if_pos (by decide)]
  · rw [h2] at e4
    subst e4
    refine ⟨fun _ => ⟨_, cp_X9_name G d X M (h + 62) 104 _ hS9 (by omega) (by omega), ?_⟩, fun h => absurd (nI_pos' (by omega)) h⟩
    intro M9 e9
    have o9 := (OffT.refl h M).name e9
    refine ⟨_, cp_X9_name G d X M9 (h + 62) 99 _ hS9 (by omega) (by omega), ?_⟩
    intro M22 e22
    have o22 := o9.name e22
    have T22 : TRep M22 (h + 62) σ nx := hT.mem hnx (fun c h4 h5 => o22.1 c (by omega) (by omega))
    refine ⟨_, cp_X9_worth G d (by omega) X M22 (h + 62) t σ (e_late σ v) hS9 (by omega) (T22.2 t h1) (fun c hc => ?_), ?_⟩
    · rw [h3] at hc
      have w5 : mI M (h + 8) 0 = σ 5 := hF.2.1.1
      rw [e22, e9, w5]
      rcases nm_7 hc with rfl | rfl
      · simp [mI_sI, up2, e_late]
      · simp [mI_sI, up2, e_late]
    · rintro M26 r27 ⟨e27, o26, r26⟩
      refine ⟨?_, fun c h4 h5 => (o26 c (by omega)).trans (o22.1 c h4 h5), r26.trans o22.2⟩
      unfold s_late
      rw [if_neg (counts_neg h1 hnx h2), h2, nI_clamp (by omega), e27]
      rfl
theorem cp_X2_drawFor (G : Gl) (d : Nat) (hd : 2 ≤ d) (X : Sh) (M : Mm) (h b nb nl nx : Nat) (σ : Nat → Int32) (la : Nat → Nat) (hS : Sh2 X h) (hnl : nl ≤ 24) (hnx : nx ≤ 12) (hb : b < nb) (hnb : nb ≤ 6) (hT : TRep M (h + 62) σ nx) (hF : FR M (h + 8) σ nl la) (hB : BRep M (h + 1) σ nb) :
    Cn G m_X2_drawFor d [.ref h, .int (nI b)] X M (fun M2 x => x = s_draw σ nl nx b ∧ OffT h M M2) := by
  obtain ⟨d, rfl⟩ : ∃ d1, d = d1 + 1 := ⟨d - 1, by omega⟩
  have hS9 := sh2_S_texts hS
  have hSf := sh2_S_furnace hS
  refine Cn.of (by decide) (Nat.le_of_ble_eq_true rfl) (bX2_drawFor_0 hS (by omega) ⟨_, cp_X9_lastOf G d X M (h + 62) nx b 0 (nI b) σ hS9 hnx hT (Or.inl ⟨by omega, rfl, rfl⟩), ?_⟩)
  rintro M3 r4 ⟨e, e4⟩
  have e := e.symm
  subst e
  rcases s_counts_spec σ (nI b) nx with h1 | ⟨t, h1, h2, h3⟩
  · rw [h1] at e4
    subst e4
    refine ⟨fun h => absurd h (by decide), fun _ => ⟨?_, OffT.refl _ _⟩⟩
    unfold s_draw
    rw [h1, if_pos (by decide)]
  · rw [h2] at e4
    subst e4
    refine ⟨fun _ => ⟨_, cp_X9_name G d X M (h + 62) 104 _ hS9 (by omega) (by omega), ?_⟩, fun h => absurd (nI_pos' (by omega)) h⟩
    intro M9 e9
    have o9 := (OffT.refl h M).name e9
    have F9 : FR M9 (h + 8) σ nl la := hF.mem hnl (fun c h4 h5 => o9.1 c (by omega) (by omega)) (by rw [o9.2])
    refine ⟨_, cp_X1_greatestTop G d (by omega) X M9 (h + 8) hSf, ?_⟩
    rintro M13 r14 ⟨e, e14⟩
    have e := e.symm
    subst e
    rw [F9.great] at e14
    refine ⟨_, cp_X9_name G d X M9 (h + 62) 116 _ hS9 (by omega) (by omega), ?_⟩
    intro M18 e18
    have o18 := o9.name e18
    refine ⟨_, cp_X9_name G d X M18 (h + 62) 98 _ hS9 (by omega) (by omega), ?_⟩
    intro M22 e22
    have o22 := o18.name e22
    refine ⟨b, rfl, by omega, _, cp_X9_name G d X M22 (h + 62) 115 _ hS9 (by omega) (by omega), ?_⟩
    intro M29 e29
    have o29 := o22.name e29
    have T29 : TRep M29 (h + 62) σ nx := hT.mem hnx (fun c h4 h5 => o29.1 c (by omega) (by omega))
    have wb : mI M (h + 1 + 4) b = σ (23 + 5 * b) := (hB.2.2.1 b hb).2.2.2.1
    refine ⟨_, cp_X9_worth G d (by omega) X M29 (h + 62) t σ (e_draw σ nl b) hS9 (by omega) (T29.2 t h1) (fun c hc => ?_), ?_⟩
    · rw [h3] at hc
      have w5 : mI M (h + 8) 0 = σ 5 := hF.2.1.1
      have w3 : mI M18 (h + 8) 3 = σ 11 := by rw [o18.1 _ (by omega) (by omega), hF.2.1.2.2.2.1]
      have w2 : mI M18 (h + 8) 2 = σ 10 := by rw [o18.1 _ (by omega) (by omega), hF.2.1.2.2.1]
      have w4 : mI M22 (h + 1 + 4) b = σ (23 + 5 * b) := by rw [o22.1 _ (by omega) (by omega), wb]
      rw [w4] at e29
      rw [w3, w2] at e22
      rw [w5] at e9
      rw [e29, e22, e18, e9, e14]
      rcases nm_d (show b ≤ 5 by omega) hc with rfl | rfl | rfl | rfl
      · simp [mI_sI, up2, e_draw]
      · simp [mI_sI, up2, e_draw]
      · simp [mI_sI, up2, e_draw]
      · simp [mI_sI, up2, e_draw]
    · rintro M33 r34 ⟨e34, o33, r33⟩
      refine ⟨?_, fun c h4 h5 => (o33 c (by omega)).trans (o29.1 c h4 h5), r33.trans o29.2⟩
      rw [o33 _ (by omega), o29.1 _ (by omega) (by omega), wb, e34]
      unfold s_draw
      rw [if_neg (counts_neg h1 hnx h2), h2, nI_clamp (by omega)]
      show (if σ (23 + 5 * b) < f_heldIn (s_worth σ t (e_draw σ nl b)) 999 then σ (23 + 5 * b) else f_heldIn (s_worth σ t (e_draw σ nl b)) 999) = _
      generalize f_heldIn (s_worth σ t (e_draw σ nl b)) 999 = y
      by_cases q : σ (23 + 5 * b) < y
      · rw [if_pos q, if_pos (Int32.le_of_lt q)]
      · rw [if_neg q]
        by_cases q2 : σ (23 + 5 * b) ≤ y
        · rw [if_pos q2]
          exact Int32.le_antisymm (i_nlt.mp q) q2
        · rw [if_neg q2]
theorem bX2_passHour_0 {G : Gl} {d : Nat} {X : Sh} {M : Mm} {Q : Mm → Prop} {a : Nat} {b1 : Nat} (hS : Sh2 X a) (hS1 : Sh1 X b1) (h : (∃ q1 : Mm → Int32 → Prop, Cn G m_X2_gasFor d [.ref a, .ref b1] X M q1 ∧ ∀ M3 r4, q1 M3 r4 → (∃ q6 : Mm → Prop, Cv G m_X1_passHour d [.ref b1, .int r4] X M3 q6 ∧ ∀ M8, q6 M8 → Q M8))) : Wv G m_X2_passHour (d + 1) 0 [(0, .ref a), (1, .ref b1)] [] X M Q := by
  refine wp_aload_n 1 dX2_passHour_0 rfl rfl ?_
  refine wp_aload_n 0 dX2_passHour_1 rfl rfl ?_
  refine wp_aload_n 1 dX2_passHour_2 rfl rfl ?_
  obtain ⟨q1, o2, h⟩ := h
  refine wp_cvi dX2_passHour_3 ck_RX2_62 (sh2_K hS) (as := [.ref b1]) rfl rfl (Nat.le_of_ble_eq_true rfl) o2 (fun M3 r4 o5 => ?_)
  replace h := h M3 r4 o5
  obtain ⟨q6, o7, h⟩ := h
  refine wp_cvv dX2_passHour_6 ck_RX2_66 (sh1_K hS1) (as := [.int r4]) rfl rfl (Nat.le_of_ble_eq_true rfl) o7 (fun M8 o9 => ?_)
  replace h := h M8 o9
  exact wv_ret dX2_passHour_9 rfl h
theorem gas_nat {σ : Nat → Int32} {nl nx g7 : Nat} (h7 : σ 7 = nI g7) (hg : g7 ≤ 999) : ∃ g : Nat, g ≤ 999 ∧ s_gas σ nl nx = nI g := by
  unfold s_gas
  split
  · exact ⟨g7, hg, h7⟩
  · exact held_nat _
/-- an hour of the furnace at f by the house's texts -/
theorem cp_X2_passHour (G : Gl) (d : Nat) (hd : 5 ≤ d) (X : Sh) (M : Mm) (h f nl nx g7 : Nat) (σ : Nat → Int32) (la : Nat → Nat) (fol : Int32) (hS : Sh2 X h) (hSf : Sh1 X f) (hfar : f + 53 < h + 62 ∨ h + 81 < f) (hnl : nl ≤ 24) (hnx : nx ≤ 12) (hT : TRep M (h + 62) σ nx) (hF : FR M f σ nl la) (hW : FW σ nl) (hr : mI M (h + 85) 1 = σ 7) (h7 : σ 7 = nI g7) (hg : g7 ≤ 999) :
    Cv G m_X2_passHour d [.ref h, .ref f] X M (fun M2 => ∃ M1, OffT h M M1 ∧ HrQ M1 f nl σ (s_parts (s_gas σ nl nx) (s_wts σ nl)) fol la M2) := by
  obtain ⟨d, rfl⟩ : ∃ d1, d = d1 + 1 := ⟨d - 1, by omega⟩
  refine Cv.of (by decide) (Nat.le_of_ble_eq_true rfl) (bX2_passHour_0 hS hSf ⟨_, cp_X2_gasFor G d (by omega) X M h f nl nx σ la hS hSf (by omega) hnl hnx hT hF hr, ?_⟩)
  rintro M3 r4 ⟨e4, o3⟩
  obtain ⟨g, hg9, eg⟩ := gas_nat (nl := nl) (nx := nx) h7 hg
  rw [eg] at e4
  subst e4
  have F3 : FR M3 f σ nl la := hF.mem hnl (fun c h4 h5 => o3.1 c (by omega) (by omega)) (by rw [o3.2])
  refine ⟨_, cp_X1_passHour G d (by omega) X M3 f nl g σ la fol hSf hnl F3 hW hg9, ?_⟩
  intro M8 h8
  rw [eg]
  exact ⟨M3, o3, h8⟩
