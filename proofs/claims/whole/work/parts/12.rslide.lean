/-! a layer slides: β the rings' bulks, ρ the layer's own -/
def sl_far (β : Nat → Int32) (r : Nat) : Int32 := β r * 100 / areaV r - β (r + 1) * 100 / areaV (r + 1)
def sl_hi (β : Nat → Int32) (r : Nat) : Nat := if sl_far β r ≤ 0 then r + 1 else r
def sl_lo (β : Nat → Int32) (r : Nat) : Nat := if sl_far β r ≤ 0 then r else r + 1
abbrev sl_c (sl : Int32) (β ρ : Nat → Int32) (r : Nat) : Prop := (sl < sl_far β r ∨ ¬ (-(sl_far β r) ≤ sl)) ∧ 0 < ρ (sl_hi β r)
def sl_next (sl : Int32) (β ρ : Nat → Int32) : Nat → Option Nat
  | 0 => none
  | k + 1 => if sl_c sl β ρ (3 - k) then some (3 - k) else sl_next sl β ρ k
def sl_move (f : Nat → Int32) (hi lo : Nat) : Nat → Int32 := upd (upd f hi (f hi - 1)) lo (upd f hi (f hi - 1) lo + 1)
def sl_iter (sl : Int32) : Nat → (Nat → Int32) → (Nat → Int32) → (Nat → Int32) × (Nat → Int32)
  | 0, β, ρ => (β, ρ)
  | n + 1, β, ρ => match sl_next sl β ρ 4 with
    | none => (β, ρ)
    | some r => sl_iter sl n (sl_move β (sl_hi β r) (sl_lo β r)) (sl_move ρ (sl_hi β r) (sl_lo β r))
theorem sl_hi_lt (β : Nat → Int32) {r : Nat} (h : r < 4) : sl_hi β r < 5 := by
  unfold sl_hi
  split <;> omega
theorem sl_lo_lt (β : Nat → Int32) {r : Nat} (h : r < 4) : sl_lo β r < 5 := by
  unfold sl_lo
  split <;> omega
theorem sl_far_cong {β β2 : Nat → Int32} (h : ∀ r, r < 5 → β r = β2 r) {r : Nat} (hr : r < 4) : sl_far β r = sl_far β2 r := by
  unfold sl_far
  rw [h r (by omega), h (r + 1) (by omega)]
theorem sl_c_cong {sl : Int32} {β β2 ρ ρ2 : Nat → Int32} (h : ∀ r, r < 5 → β r = β2 r) (h2 : ∀ r, r < 5 → ρ r = ρ2 r) {r : Nat} (hr : r < 4) : sl_c sl β ρ r ↔ sl_c sl β2 ρ2 r := by
  have e := sl_far_cong h hr
  have e2 : sl_hi β r = sl_hi β2 r := by
    unfold sl_hi
    rw [e]
  unfold sl_c
  rw [e, e2, h2 _ (sl_hi_lt β2 hr)]
theorem sl_next_cong {sl : Int32} {β β2 ρ ρ2 : Nat → Int32} (h : ∀ r, r < 5 → β r = β2 r) (h2 : ∀ r, r < 5 → ρ r = ρ2 r) : ∀ k, k < 5 → sl_next sl β ρ k = sl_next sl β2 ρ2 k
  | 0, _ => rfl
  | k + 1, hk => by
    have hc := sl_c_cong (sl := sl) h h2 (r := 3 - k) (by omega)
    show (if sl_c sl β ρ (3 - k) then some (3 - k) else sl_next sl β ρ k) = (if sl_c sl β2 ρ2 (3 - k) then some (3 - k) else sl_next sl β2 ρ2 k)
    rw [sl_next_cong h h2 k (by omega)]
    by_cases hh : sl_c sl β ρ (3 - k)
    · rw [if_pos hh, if_pos (hc.mp hh)]
    · rw [if_neg hh, if_neg (fun q => hh (hc.mpr q))]
theorem sl_next_lt {sl : Int32} {β ρ : Nat → Int32} : ∀ k, k < 5 → ∀ r, sl_next sl β ρ k = some r → r < 4
  | 0, _, r, h => by cases h
  | k + 1, hk, r, h => by
    have h' : (if sl_c sl β ρ (3 - k) then some (3 - k) else sl_next sl β ρ k) = some r := h
    by_cases hh : sl_c sl β ρ (3 - k)
    · rw [if_pos hh] at h'
      cases h'
      omega
    · rw [if_neg hh] at h'
      exact sl_next_lt k (by omega) r h'
theorem sl_move_cong {f g : Nat → Int32} {hi lo : Nat} (h : ∀ r, r < 5 → f r = g r) (h1 : hi < 5) : ∀ r, r < 5 → sl_move f hi lo r = sl_move g hi lo r := by
  intro r hr
  unfold sl_move upd
  by_cases e1 : lo = hi
  · simp only [e1, h hi h1]
    split
    · rfl
    · exact h r hr
  · by_cases e2 : r = lo
    · subst e2
      simp [e1, h r hr]
    · simp [e2, h r hr, h hi h1]
theorem sl_iter_none {sl : Int32} {n : Nat} {β ρ : Nat → Int32} (h : sl_next sl β ρ 4 = none) : sl_iter sl (n + 1) β ρ = (β, ρ) := by
  unfold sl_iter
  rw [h]
theorem sl_iter_some {sl : Int32} {n r : Nat} {β ρ : Nat → Int32} (h : sl_next sl β ρ 4 = some r) : sl_iter sl (n + 1) β ρ = sl_iter sl n (sl_move β (sl_hi β r) (sl_lo β r)) (sl_move ρ (sl_hi β r) (sl_lo β r)) := by
  rw [sl_iter]
  rw [h]
theorem sl_iter_cong (sl : Int32) : ∀ (n : Nat) {β β2 ρ ρ2 : Nat → Int32}, (∀ r, r < 5 → β r = β2 r) → (∀ r, r < 5 → ρ r = ρ2 r) → (∀ r, r < 5 → (sl_iter sl n β ρ).1 r = (sl_iter sl n β2 ρ2).1 r) ∧ (∀ r, r < 5 → (sl_iter sl n β ρ).2 r = (sl_iter sl n β2 ρ2).2 r)
  | 0, β, β2, ρ, ρ2, h, h2 => ⟨h, h2⟩
  | n + 1, β, β2, ρ, ρ2, h, h2 => by
    have e := sl_next_cong (sl := sl) h h2 4 (by omega)
    cases hq : sl_next sl β2 ρ2 4 with
    | none =>
      rw [hq] at e
      rw [sl_iter_none hq, sl_iter_none e]
      exact ⟨h, h2⟩
    | some r =>
      rw [hq] at e
      have hr := sl_next_lt 4 (by omega) r hq
      have ef := sl_far_cong h hr
      have e1 : sl_hi β r = sl_hi β2 r := by
        unfold sl_hi
        rw [ef]
      have e2 : sl_lo β r = sl_lo β2 r := by
        unfold sl_lo
        rw [ef]
      rw [sl_iter_some hq, sl_iter_some e, e1, e2]
      exact sl_iter_cong sl n (sl_move_cong h (sl_hi_lt β2 hr)) (sl_move_cong h2 (sl_hi_lt β2 hr))
/-- the flat row behind the slide of layer l -/
def s_slide (σ : Nat → Int32) (nl l : Nat) : Nat → Int32 := fun k => if 65 + 10 * l ≤ k ∧ k < 70 + 10 * l then (sl_iter (σ 6) 400 (fun r => s_bulkIn σ r nl) (fun r => σ (65 + 10 * l + r))).2 (k - (65 + 10 * l)) else σ k
theorem bX11_slide_0 {G : Gl} {d : Nat} {X : Sh} {M : Mm} {Q : Mm → Prop} {a : Nat} {x1 : Int32} (hS : Sh10 X a) (h : (∀ v1 : Int32, v1 = ((60 + 10 * x1) + 5) → Wv G m_X11_slide (d + 1) 10 [(0, .ref a), (2, .int v1), (3, .int 0)] [] X M Q)) : Wv G m_X11_slide (d + 1) 0 [(0, .ref a), (1, .int x1)] [] X M Q := by
  refine wp_aload_n 0 dX11_slide_0 rfl rfl ?_
  refine wp_iload_n 1 dX11_slide_1 rfl rfl ?_
  refine wp_cvip dX11_slide_2 ck_RX11_134 (sh10_K hS) (as := [.int x1]) rfl rfl (Nat.le_of_ble_eq_true rfl) (cp_X11_layerAt G d X M a x1 hS) ?_
  refine wp_iconst (v := 5) dX11_slide_5 rfl ?_
  refine wp_iadd dX11_slide_6 ?_
  refine wp_topi (fun v1 ev1 => ?_)
  replace h := h v1 ev1
  refine wp_istore_n (lo2 := [(2, .int _), (0, .ref _), (1, .int _)]) dX11_slide_7 rfl (by decide) rfl ?_
  refine wp_iconst (v := 0) dX11_slide_8 rfl ?_
  refine wp_istore_n (lo2 := [(3, .int _), (2, .int _), (0, .ref _), (1, .int _)]) dX11_slide_9 rfl (by decide) rfl ?_
  exact Wp.sub [2, 1, 0] rfl h
theorem bX11_slide_10 {G : Gl} {d : Nat} {X : Sh} {M : Mm} {Q : Mm → Prop} {a : Nat} {x2 : Int32} {x3 : Int32} (hS : Sh10 X a) (h : ((5 ≤ x3 → Wv G m_X11_slide (d + 1) 37 [(0, .ref a), (2, .int x2), (3, .int 1), (4, .int 0)] [] X M Q) ∧ (¬ (5 ≤ x3) → (∃ q2 : Mm → Int32 → Prop, Cn G m_X11_bulkIn d [.ref a, .int x3] X M q2 ∧ ∀ M4 r5, q2 M4 r5 → (∃ j7 : Nat, x3 = nI j7 ∧ j7 < 5 ∧ (∀ M10 : Mm, M10 = sI M4 (a + 16) j7 r5 → Wv G m_X11_slide (d + 1) 10 [(0, .ref a), (2, .int x2), (3, .int (x3 + 1))] [] X M10 Q)))))) : Wv G m_X11_slide (d + 1) 10 [(0, .ref a), (2, .int x2), (3, .int x3)] [] X M Q := by
  refine wp_iload_n 2 dX11_slide_10 rfl rfl ?_
  refine wp_iconst (v := 5) dX11_slide_11 rfl ?_
  refine wp_icmp_ge (tgt := 32) dX11_slide_12 (by decide) (fun c1 => ?_) (fun c1 => ?_)
  · replace h := h.1 c1
    refine wp_iconst (v := 1) dX11_slide_32 rfl ?_
    refine wp_istore_n (lo2 := [(3, .int _), (0, .ref _), (2, .int _)]) dX11_slide_33 rfl (by decide) rfl ?_
    refine wp_iconst (v := 0) dX11_slide_34 rfl ?_
    refine wp_istore (lo2 := [(4, .int _), (3, .int _), (0, .ref _), (2, .int _)]) dX11_slide_35 (by decide) rfl ?_
    exact Wp.sub [2, 3, 1, 0] rfl h
  · replace h := h.2 c1
    refine wp_aload_n 0 dX11_slide_15 rfl rfl ?_
    refine wp_getR dX11_slide_16 fl_RX11_56 rfl (sh10_K hS) (sh10_F_inRing hS) ?_
    refine wp_iload_n 2 dX11_slide_19 rfl rfl ?_
    refine wp_aload_n 0 dX11_slide_20 rfl rfl ?_
    refine wp_iload_n 2 dX11_slide_21 rfl rfl ?_
    obtain ⟨q2, o3, h⟩ := h
    refine wp_cvi dX11_slide_22 ck_RX11_137 (sh10_K hS) (as := [.int x3]) rfl rfl (Nat.le_of_ble_eq_true rfl) o3 (fun M4 r5 o6 => ?_)
    replace h := h M4 r5 o6
    obtain ⟨j7, o8, o9, h⟩ := h
    refine wp_iast (n := 5) dX11_slide_25 (sh10_K_inRing hS) (sh10_N_inRing hS) (by decide) o8 o9 ?_
    refine wp_nm (fun M10 eM10 => ?_)
    replace h := h M10 eM10
    refine wp_iinc (v := x3 + 1) (lo2 := [(3, .int _), (0, .ref _), (2, .int _)]) dX11_slide_26 (q := 2) rfl rfl (by decide) rfl ?_
    refine wp_goto (tgt := 10) dX11_slide_29 (by decide) ?_
    exact Wp.sub [1, 2, 0] rfl h
theorem bX11_slide_37 {G : Gl} {d : Nat} {X : Sh} {M : Mm} {Q : Mm → Prop} {a : Nat} {x2 : Int32} {x3 : Int32} {x4 : Int32} (hS : Sh10 X a) (h : ((400 ≤ x4 → Q M) ∧ (¬ (400 ≤ x4) → ((x3 = 0 → Q M) ∧ (¬ (x3 = 0) → Wv G m_X11_slide (d + 1) 54 [(0, .ref a), (2, .int x2), (3, .int 0), (4, .int x4), (5, .int 0)] [] X M Q))))) : Wv G m_X11_slide (d + 1) 37 [(0, .ref a), (2, .int x2), (3, .int x3), (4, .int x4)] [] X M Q := by
  refine wp_iload 3 dX11_slide_37 rfl ?_
  refine wp_sipush (v := 400) dX11_slide_39 rfl ?_
  refine wp_icmp_ge (tgt := 254) dX11_slide_42 (by decide) (fun c1 => ?_) (fun c1 => ?_)
  · replace h := h.1 c1
    exact wv_ret dX11_slide_254 rfl h
  · replace h := h.2 c1
    refine wp_iload_n 2 dX11_slide_45 rfl rfl ?_
    refine wp_if_eq (tgt := 254) dX11_slide_46 (by decide) (fun c2 => ?_) (fun c2 => ?_)
    · replace h := h.1 c2
      exact wv_ret dX11_slide_254 rfl h
    · replace h := h.2 c2
      refine wp_iconst (v := 0) dX11_slide_49 rfl ?_
      refine wp_istore_n (lo2 := [(3, .int _), (0, .ref _), (2, .int _), (4, .int _)]) dX11_slide_50 rfl (by decide) rfl ?_
      refine wp_iconst (v := 0) dX11_slide_51 rfl ?_
      refine wp_istore (lo2 := [(5, .int _), (3, .int _), (0, .ref _), (2, .int _), (4, .int _)]) dX11_slide_52 (by decide) rfl ?_
      exact Wp.sub [2, 3, 1, 4, 0] rfl h
theorem bX11_slide_54 {G : Gl} {d : Nat} {X : Sh} {M : Mm} {Q : Mm → Prop} {a : Nat} {x2 : Int32} {x3 : Int32} {x4 : Int32} {x5 : Int32} (hS : Sh10 X a) (h : ((5 ≤ x5 → Wv G m_X11_slide (d + 1) 92 [(0, .ref a), (2, .int x2), (3, .int x3), (4, .int x4), (5, .int 0)] [] X M Q) ∧ (¬ (5 ≤ x5) → (∃ j2 : Nat, x5 = nI j2 ∧ j2 < 5 ∧ (¬ ((2 * x5 + 1) = 0) ∧ (∀ M6 : Mm, M6 = sI M (a + 15) j2 (((mI M (a + 16) j2) * 100) / (2 * x5 + 1)) → Wv G m_X11_slide (d + 1) 54 [(0, .ref a), (2, .int x2), (3, .int x3), (4, .int x4), (5, .int (x5 + 1))] [] X M6 Q)))))) : Wv G m_X11_slide (d + 1) 54 [(0, .ref a), (2, .int x2), (3, .int x3), (4, .int x4), (5, .int x5)] [] X M Q := by
  refine wp_iload 4 dX11_slide_54 rfl ?_
  refine wp_iconst (v := 5) dX11_slide_56 rfl ?_
  refine wp_icmp_ge (tgt := 89) dX11_slide_57 (by decide) (fun c1 => ?_) (fun c1 => ?_)
  · replace h := h.1 c1
    refine wp_iconst (v := 0) dX11_slide_89 rfl ?_
    refine wp_istore (lo2 := [(5, .int _), (0, .ref _), (2, .int _), (3, .int _), (4, .int _)]) dX11_slide_90 (by decide) rfl ?_
    exact Wp.sub [1, 2, 3, 4, 0] rfl h
  · replace h := h.2 c1
    refine wp_aload_n 0 dX11_slide_60 rfl rfl ?_
    refine wp_getR dX11_slide_61 fl_RX11_53 rfl (sh10_K hS) (sh10_F_tops hS) ?_
    refine wp_iload 4 dX11_slide_64 rfl ?_
    refine wp_aload_n 0 dX11_slide_66 rfl rfl ?_
    refine wp_getR dX11_slide_67 fl_RX11_56 rfl (sh10_K hS) (sh10_F_inRing hS) ?_
    refine wp_iload 4 dX11_slide_70 rfl ?_
    obtain ⟨j2, o3, o4, h⟩ := h
    refine wp_iald (n := 5) dX11_slide_72 (sh10_K_inRing hS) (sh10_N_inRing hS) (by decide) o3 o4 ?_
    refine wp_bipush (v := 100) dX11_slide_73 rfl ?_
    refine wp_imul dX11_slide_75 ?_
    refine wp_iload 4 dX11_slide_76 rfl ?_
    refine wp_csip dX11_slide_78 ck_RX11_140 rfl (as := [.int x5]) rfl rfl (Nat.le_of_ble_eq_true rfl) (cp_X11_areaOf G d X M x5) ?_
    obtain ⟨o5, h⟩ := h
    refine wp_idiv dX11_slide_81 o5 ?_
    refine wp_iast (n := 5) dX11_slide_82 (sh10_K_tops hS) (sh10_N_tops hS) (by decide) o3 o4 ?_
    refine wp_nm (fun M6 eM6 => ?_)
    replace h := h M6 eM6
    refine wp_iinc (v := x5 + 1) (lo2 := [(5, .int _), (0, .ref _), (2, .int _), (3, .int _), (4, .int _)]) dX11_slide_83 (q := 4) rfl rfl (by decide) rfl ?_
    refine wp_goto (tgt := 54) dX11_slide_86 (by decide) ?_
    exact Wp.sub [1, 2, 3, 4, 0] rfl h
theorem bX11_slide_92 {G : Gl} {d : Nat} {X : Sh} {M : Mm} {Q : Mm → Prop} {a : Nat} {x2 : Int32} {x3 : Int32} {x4 : Int32} {x5 : Int32} (hS : Sh10 X a) (h : ((5 ≤ (x5 + 1) → Wv G m_X11_slide (d + 1) 37 [(0, .ref a), (2, .int x2), (3, .int x3), (4, .int (x4 + 1))] [] X M Q) ∧ (¬ (5 ≤ (x5 + 1)) → ((¬ (x3 = 0) → Wv G m_X11_slide (d + 1) 37 [(0, .ref a), (2, .int x2), (3, .int x3), (4, .int (x4 + 1))] [] X M Q) ∧ (x3 = 0 → (∃ j3 : Nat, x5 = nI j3 ∧ j3 < 5 ∧ (∃ j6 : Nat, (x5 + 1) = nI j6 ∧ j6 < 5 ∧ (∀ v9 : Int32, v9 = ((mI M (a + 15) j3) - (mI M (a + 15) j6)) → (∀ v12 : Int32, v12 = (if v9 ≤ 0 then (x5 + 1) else x5) → (∀ v15 : Int32, v15 = (if v9 ≤ 0 then x5 else (x5 + 1)) → (((mI M (a + 1) 6) < v9 → Wv G m_X11_slide (d + 1) 180 [(0, .ref a), (2, .int x2), (3, .int x3), (4, .int x4), (5, .int x5), (7, .int v12), (8, .int v15)] [] X M Q) ∧ (¬ ((mI M (a + 1) 6) < v9) → (((-v9) ≤ (mI M (a + 1) 6) → Wv G m_X11_slide (d + 1) 92 [(0, .ref a), (2, .int x2), (3, .int x3), (4, .int x4), (5, .int (x5 + 1))] [] X M Q) ∧ (¬ ((-v9) ≤ (mI M (a + 1) 6)) → Wv G m_X11_slide (d + 1) 180 [(0, .ref a), (2, .int x2), (3, .int x3), (4, .int x4), (5, .int x5), (7, .int v12), (8, .int v15)] [] X M Q)))))))))))))) : Wv G m_X11_slide (d + 1) 92 [(0, .ref a), (2, .int x2), (3, .int x3), (4, .int x4), (5, .int x5)] [] X M Q := by
  refine wp_iload 4 dX11_slide_92 rfl ?_
  refine wp_iconst (v := 1) dX11_slide_94 rfl ?_
  refine wp_iadd dX11_slide_95 ?_
  refine wp_iconst (v := 5) dX11_slide_96 rfl ?_
  refine wp_icmp_ge (tgt := 248) dX11_slide_97 (by decide) (fun c1 => ?_) (fun c1 => ?_)
  · replace h := h.1 c1
    refine wp_iinc (v := x4 + 1) (lo2 := [(4, .int _), (0, .ref _), (2, .int _), (3, .int _), (5, .int _)]) dX11_slide_248 (q := 3) rfl rfl (by decide) rfl ?_
    refine wp_goto (tgt := 37) dX11_slide_251 (by decide) ?_
    exact Wp.sub [1, 2, 3, 0] rfl h
  · replace h := h.2 c1
    refine wp_iload_n 2 dX11_slide_100 rfl rfl ?_
    refine wp_if_ne (tgt := 248) dX11_slide_101 (by decide) (fun c2 => ?_) (fun c2 => ?_)
    · replace h := h.1 c2
      refine wp_iinc (v := x4 + 1) (lo2 := [(4, .int _), (0, .ref _), (2, .int _), (3, .int _), (5, .int _)]) dX11_slide_248 (q := 3) rfl rfl (by decide) rfl ?_
      refine wp_goto (tgt := 37) dX11_slide_251 (by decide) ?_
      exact Wp.sub [1, 2, 3, 0] rfl h
    · replace h := h.2 c2
      refine wp_aload_n 0 dX11_slide_104 rfl rfl ?_
      refine wp_getR dX11_slide_105 fl_RX11_53 rfl (sh10_K hS) (sh10_F_tops hS) ?_
      refine wp_iload 4 dX11_slide_108 rfl ?_
      obtain ⟨j3, o4, o5, h⟩ := h
      refine wp_iald (n := 5) dX11_slide_110 (sh10_K_tops hS) (sh10_N_tops hS) (by decide) o4 o5 ?_
      refine wp_aload_n 0 dX11_slide_111 rfl rfl ?_
      refine wp_getR dX11_slide_112 fl_RX11_53 rfl (sh10_K hS) (sh10_F_tops hS) ?_
      refine wp_iload 4 dX11_slide_115 rfl ?_
      refine wp_iconst (v := 1) dX11_slide_117 rfl ?_
      refine wp_iadd dX11_slide_118 ?_
      obtain ⟨j6, o7, o8, h⟩ := h
      refine wp_iald (n := 5) dX11_slide_119 (sh10_K_tops hS) (sh10_N_tops hS) (by decide) o7 o8 ?_
      refine wp_isub dX11_slide_120 ?_
      refine wp_topi (fun v9 ev9 => ?_)
      replace h := h v9 ev9
      refine wp_istore (lo2 := [(6, .int _), (0, .ref _), (2, .int _), (3, .int _), (4, .int _), (5, .int _)]) dX11_slide_121 (by decide) rfl ?_
      refine wp_iload 0 dX11_slide_123 rfl ?_
      have K11 : Wp G m_X11_slide (d + 1) 0 0 0 0 137 [(6, .int v9), (0, .ref a), (2, .int x2), (3, .int x3), (4, .int x4), (5, .int x5)] [.int ((if v9 ≤ 0 then (x5 + 1) else x5))] X M (fun X2 M2 v => X2 = X ∧ v = none ∧ Q M2) := by
        refine wp_topi (fun v12 ev12 => ?_)
        replace h := h v12 ev12
        refine wp_istore (lo2 := [(7, .int _), (6, .int _), (0, .ref _), (2, .int _), (3, .int _), (4, .int _), (5, .int _)]) dX11_slide_137 (by decide) rfl ?_
        refine wp_iload 1 dX11_slide_139 rfl ?_
        have K14 : Wp G m_X11_slide (d + 1) 0 0 0 0 153 [(7, .int v12), (6, .int v9), (0, .ref a), (2, .int x2), (3, .int x3), (4, .int x4), (5, .int x5)] [.int ((if v9 ≤ 0 then x5 else (x5 + 1)))] X M (fun X2 M2 v => X2 = X ∧ v = none ∧ Q M2) := by
          refine wp_topi (fun v15 ev15 => ?_)
          replace h := h v15 ev15
          refine wp_istore (lo2 := [(8, .int _), (7, .int _), (6, .int _), (0, .ref _), (2, .int _), (3, .int _), (4, .int _), (5, .int _)]) dX11_slide_153 (by decide) rfl ?_
          refine wp_iload 2 dX11_slide_155 rfl ?_
          refine wp_aload_n 3 dX11_slide_157 rfl rfl ?_
          refine wp_getR dX11_slide_158 fl_RX11_7 rfl (sh10_K hS) (sh10_F_s hS) ?_
          refine wp_bipush (v := 6) dX11_slide_161 rfl ?_
          refine wp_iald (n := 2950) dX11_slide_163 (sh10_K_s hS) (sh10_N_s hS) (by decide) rfl (by decide) ?_
          refine wp_icmp_gt (tgt := 180) dX11_slide_164 (by decide) (fun c16 => ?_) (fun c16 => ?_)
          · replace h := h.1 c16
            exact Wp.sub [3, 4, 5, 6, 7, 1, 0] rfl h
          · replace h := h.2 c16
            refine wp_iload 2 dX11_slide_167 rfl ?_
            refine wp_ineg dX11_slide_169 ?_
            refine wp_aload_n 3 dX11_slide_170 rfl rfl ?_
            refine wp_getR dX11_slide_171 fl_RX11_7 rfl (sh10_K hS) (sh10_F_s hS) ?_
            refine wp_bipush (v := 6) dX11_slide_174 rfl ?_
            refine wp_iald (n := 2950) dX11_slide_176 (sh10_K_s hS) (sh10_N_s hS) (by decide) rfl (by decide) ?_
            refine wp_icmp_le (tgt := 242) dX11_slide_177 (by decide) (fun c17 => ?_) (fun c17 => ?_)
            · replace h := h.1 c17
              refine wp_iinc (v := x5 + 1) (lo2 := [(5, .int _), (8, .int _), (7, .int _), (6, .int _), (0, .ref _), (2, .int _), (3, .int _), (4, .int _)]) dX11_slide_242 (q := 7) rfl rfl (by decide) rfl ?_
              refine wp_goto (tgt := 92) dX11_slide_245 (by decide) ?_
              exact Wp.sub [4, 5, 6, 7, 0] rfl h
            · replace h := h.2 c17
              exact Wp.sub [3, 4, 5, 6, 7, 1, 0] rfl h
        refine wp_if_le (tgt := 151) dX11_slide_141 (by decide) (fun c13 => ?_) (fun c13 => ?_)
        · refine wp_iload 6 dX11_slide_151 rfl ?_
          rw [if_pos c13] at K14
          exact K14
        · refine wp_iload 6 dX11_slide_144 rfl ?_
          refine wp_iconst (v := 1) dX11_slide_146 rfl ?_
          refine wp_iadd dX11_slide_147 ?_
          refine wp_goto (tgt := 153) dX11_slide_148 (by decide) ?_
          rw [if_neg c13] at K14
          exact K14
      refine wp_if_le (tgt := 133) dX11_slide_125 (by decide) (fun c10 => ?_) (fun c10 => ?_)
      · refine wp_iload 5 dX11_slide_133 rfl ?_
        refine wp_iconst (v := 1) dX11_slide_135 rfl ?_
        refine wp_iadd dX11_slide_136 ?_
        rw [if_pos c10] at K11
        exact K11
      · refine wp_iload 5 dX11_slide_128 rfl ?_
        refine wp_goto (tgt := 137) dX11_slide_130 (by decide) ?_
        rw [if_neg c10] at K11
        exact K11
theorem bX11_slide_180 {G : Gl} {d : Nat} {X : Sh} {M : Mm} {Q : Mm → Prop} {a : Nat} {x2 : Int32} {x3 : Int32} {x4 : Int32} {x5 : Int32} {x7 : Int32} {x8 : Int32} (hS : Sh10 X a) (h : (∃ j1 : Nat, (x2 + x7) = nI j1 ∧ j1 < 2950 ∧ (((mI M (a + 1) j1) ≤ 0 → Wv G m_X11_slide (d + 1) 92 [(0, .ref a), (2, .int x2), (3, .int x3), (4, .int x4), (5, .int (x5 + 1))] [] X M Q) ∧ (¬ ((mI M (a + 1) j1) ≤ 0) → (∀ M5 : Mm, M5 = sI M (a + 1) j1 ((mI M (a + 1) j1) - 1) → (∃ j6 : Nat, (x2 + x8) = nI j6 ∧ j6 < 2950 ∧ (∀ M9 : Mm, M9 = sI M5 (a + 1) j6 ((mI M5 (a + 1) j6) + 1) → (∃ j10 : Nat, x7 = nI j10 ∧ j10 < 5 ∧ (∀ M13 : Mm, M13 = sI M9 (a + 16) j10 ((mI M9 (a + 16) j10) - 1) → (∃ j14 : Nat, x8 = nI j14 ∧ j14 < 5 ∧ (∀ M17 : Mm, M17 = sI M13 (a + 16) j14 ((mI M13 (a + 16) j14) + 1) → Wv G m_X11_slide (d + 1) 92 [(0, .ref a), (2, .int x2), (3, .int 1), (4, .int x4), (5, .int (x5 + 1))] [] X M17 Q))))))))))) : Wv G m_X11_slide (d + 1) 180 [(0, .ref a), (2, .int x2), (3, .int x3), (4, .int x4), (5, .int x5), (7, .int x7), (8, .int x8)] [] X M Q := by
  refine wp_aload_n 0 dX11_slide_180 rfl rfl ?_
  refine wp_getR dX11_slide_181 fl_RX11_7 rfl (sh10_K hS) (sh10_F_s hS) ?_
  refine wp_iload_n 1 dX11_slide_184 rfl rfl ?_
  refine wp_iload 5 dX11_slide_185 rfl ?_
  refine wp_iadd dX11_slide_187 ?_
  obtain ⟨j1, o2, o3, h⟩ := h
  refine wp_iald (n := 2950) dX11_slide_188 (sh10_K_s hS) (sh10_N_s hS) (by decide) o2 o3 ?_
  refine wp_if_le (tgt := 242) dX11_slide_189 (by decide) (fun c4 => ?_) (fun c4 => ?_)
  · replace h := h.1 c4
    refine wp_iinc (v := x5 + 1) (lo2 := [(5, .int _), (0, .ref _), (2, .int _), (3, .int _), (4, .int _), (7, .int _), (8, .int _)]) dX11_slide_242 (q := 4) rfl rfl (by decide) rfl ?_
    refine wp_goto (tgt := 92) dX11_slide_245 (by decide) ?_
    exact Wp.sub [1, 2, 3, 4, 0] rfl h
  · replace h := h.2 c4
    refine wp_aload_n 0 dX11_slide_192 rfl rfl ?_
    refine wp_getR dX11_slide_193 fl_RX11_7 rfl (sh10_K hS) (sh10_F_s hS) ?_
    refine wp_iload_n 1 dX11_slide_196 rfl rfl ?_
    refine wp_iload 5 dX11_slide_197 rfl ?_
    refine wp_iadd dX11_slide_199 ?_
    refine wp_dup2_11 dX11_slide_200 rfl rfl ?_
    refine wp_iald (n := 2950) dX11_slide_201 (sh10_K_s hS) (sh10_N_s hS) (by decide) o2 o3 ?_
    refine wp_iconst (v := 1) dX11_slide_202 rfl ?_
    refine wp_isub dX11_slide_203 ?_
    refine wp_iast (n := 2950) dX11_slide_204 (sh10_K_s hS) (sh10_N_s hS) (by decide) o2 o3 ?_
    refine wp_nm (fun M5 eM5 => ?_)
    replace h := h M5 eM5
    refine wp_aload_n 0 dX11_slide_205 rfl rfl ?_
    refine wp_getR dX11_slide_206 fl_RX11_7 rfl (sh10_K hS) (sh10_F_s hS) ?_
    refine wp_iload_n 1 dX11_slide_209 rfl rfl ?_
    refine wp_iload 6 dX11_slide_210 rfl ?_
    refine wp_iadd dX11_slide_212 ?_
    refine wp_dup2_11 dX11_slide_213 rfl rfl ?_
    obtain ⟨j6, o7, o8, h⟩ := h
    refine wp_iald (n := 2950) dX11_slide_214 (sh10_K_s hS) (sh10_N_s hS) (by decide) o7 o8 ?_
    refine wp_iconst (v := 1) dX11_slide_215 rfl ?_
    refine wp_iadd dX11_slide_216 ?_
    refine wp_iast (n := 2950) dX11_slide_217 (sh10_K_s hS) (sh10_N_s hS) (by decide) o7 o8 ?_
    refine wp_nm (fun M9 eM9 => ?_)
    replace h := h M9 eM9
    refine wp_aload_n 0 dX11_slide_218 rfl rfl ?_
    refine wp_getR dX11_slide_219 fl_RX11_56 rfl (sh10_K hS) (sh10_F_inRing hS) ?_
    refine wp_iload 5 dX11_slide_222 rfl ?_
    refine wp_dup2_11 dX11_slide_224 rfl rfl ?_
    obtain ⟨j10, o11, o12, h⟩ := h
    refine wp_iald (n := 5) dX11_slide_225 (sh10_K_inRing hS) (sh10_N_inRing hS) (by decide) o11 o12 ?_
    refine wp_iconst (v := 1) dX11_slide_226 rfl ?_
    refine wp_isub dX11_slide_227 ?_
    refine wp_iast (n := 5) dX11_slide_228 (sh10_K_inRing hS) (sh10_N_inRing hS) (by decide) o11 o12 ?_
    refine wp_nm (fun M13 eM13 => ?_)
    replace h := h M13 eM13
    refine wp_aload_n 0 dX11_slide_229 rfl rfl ?_
    refine wp_getR dX11_slide_230 fl_RX11_56 rfl (sh10_K hS) (sh10_F_inRing hS) ?_
    refine wp_iload 6 dX11_slide_233 rfl ?_
    refine wp_dup2_11 dX11_slide_235 rfl rfl ?_
    obtain ⟨j14, o15, o16, h⟩ := h
    refine wp_iald (n := 5) dX11_slide_236 (sh10_K_inRing hS) (sh10_N_inRing hS) (by decide) o15 o16 ?_
    refine wp_iconst (v := 1) dX11_slide_237 rfl ?_
    refine wp_iadd dX11_slide_238 ?_
    refine wp_iast (n := 5) dX11_slide_239 (sh10_K_inRing hS) (sh10_N_inRing hS) (by decide) o15 o16 ?_
    refine wp_nm (fun M17 eM17 => ?_)
    replace h := h M17 eM17
    refine wp_iconst (v := 1) dX11_slide_240 rfl ?_
    refine wp_istore_n (lo2 := [(3, .int _), (0, .ref _), (2, .int _), (4, .int _), (5, .int _), (7, .int _), (8, .int _)]) dX11_slide_241 rfl (by decide) rfl ?_
    refine wp_iinc (v := x5 + 1) (lo2 := [(5, .int _), (3, .int _), (0, .ref _), (2, .int _), (4, .int _), (7, .int _), (8, .int _)]) dX11_slide_242 (q := 4) rfl rfl (by decide) rfl ?_
    refine wp_goto (tgt := 92) dX11_slide_245 (by decide) ?_
    exact Wp.sub [2, 3, 1, 4, 0] rfl h
/-- in the midst of a slide of layer l: β the rings, ρ the layer's -/
def SlM (M0 : Mm) (a l : Nat) (β ρ : Nat → Int32) (M : Mm) : Prop := (∀ r, r < 5 → mI M (a + 16) r = β r) ∧ (∀ r, r < 5 → mI M (a + 1) (65 + 10 * l + r) = ρ r) ∧ (∀ k, ¬ (65 + 10 * l ≤ k ∧ k < 70 + 10 * l) → mI M (a + 1) k = mI M0 (a + 1) k) ∧ (∀ b, b ≠ a + 1 → b ≠ a + 15 → b ≠ a + 16 → mI M b = mI M0 b) ∧ mR M = mR M0
theorem area_ok {r : Nat} (hr : r < 5) : 2 * nI r + 1 = areaV r ∧ ¬ (2 * nI r + 1 = 0) := by
  match r, hr with
  | 0, _ => exact ⟨rfl, by decide⟩
  | 1, _ => exact ⟨rfl, by decide⟩
  | 2, _ => exact ⟨rfl, by decide⟩
  | 3, _ => exact ⟨rfl, by decide⟩
  | 4, _ => exact ⟨rfl, by decide⟩
theorem cl_slide_92 (G : Gl) (d : Nat) {X : Sh} {a l : Nat} {x4 : Int32} {Q : Mm → Prop} {β ρ : Nat → Int32} (hS : Sh10 X a) (hl : l < 24) (M0 : Mm) {M : Mm} (hM : SlM M0 a l β ρ M) (hT : ∀ r, r < 5 → mI M (a + 15) r = β r * 100 / areaV r)
    (hnone : sl_next (mI M0 (a + 1) 6) β ρ 4 = none → Wv G m_X11_slide (d + 1) 37 [(0, .ref a), (2, .int (nI (65 + 10 * l))), (3, .int 0), (4, .int (x4 + 1))] [] X M Q)
    (hsome : ∀ r, sl_next (mI M0 (a + 1) 6) β ρ 4 = some r → ∀ M2, SlM M0 a l (sl_move β (sl_hi β r) (sl_lo β r)) (sl_move ρ (sl_hi β r) (sl_lo β r)) M2 → Wv G m_X11_slide (d + 1) 37 [(0, .ref a), (2, .int (nI (65 + 10 * l))), (3, .int 1), (4, .int (x4 + 1))] [] X M2 Q) :
    ∀ n r : Nat, r + n = 4 → sl_next (mI M0 (a + 1) 6) β ρ 4 = sl_next (mI M0 (a + 1) 6) β ρ n → Wv G m_X11_slide (d + 1) 92 [(0, .ref a), (2, .int (nI (65 + 10 * l))), (3, .int 0), (4, .int x4), (5, .int (nI r))] [] X M Q
  | 0, r, h, he => by
    have hr : r = 4 := h
    subst hr
    exact bX11_slide_92 hS ⟨fun _ => hnone he, fun h => absurd (by decide) h⟩
  | n + 1, r, h, he => by
    have h6 : mI M (a + 1) 6 = mI M0 (a + 1) 6 := hM.2.2.1 6 (by omega)
    have he2 : sl_next (mI M0 (a + 1) 6) β ρ (n + 1) = (if sl_c (mI M0 (a + 1) 6) β ρ (3 - n) then some (3 - n) else sl_next (mI M0 (a + 1) 6) β ρ n) := rfl
    have hrn : 3 - n = r := by omega
    rw [hrn] at he2
    have skip : ¬ sl_c (mI M0 (a + 1) 6) β ρ r → Wv G m_X11_slide (d + 1) 92 [(0, .ref a), (2, .int (nI (65 + 10 * l))), (3, .int 0), (4, .int x4), (5, .int (nI r + 1))] [] X M Q := fun hc => by
      rw [nI_1]
      refine cl_slide_92 G d hS hl M0 hM hT hnone hsome n (r + 1) (by omega) ?_
      rw [he, he2, if_neg hc]
    have hhi := sl_hi_lt β (r := r) (by omega)
    have hlo := sl_lo_lt β (r := r) (by omega)
    have hit : (mI M0 (a + 1) 6 < sl_far β r ∨ ¬ (-(sl_far β r) ≤ mI M0 (a + 1) 6)) → Wv G m_X11_slide (d + 1) 180 [(0, .ref a), (2, .int (nI (65 + 10 * l))), (3, .int 0), (4, .int x4), (5, .int (nI r)), (7, .int (nI (sl_hi β r))), (8, .int (nI (sl_lo β r)))] [] X M Q := fun hc => by
      refine bX11_slide_180 hS ⟨65 + 10 * l + sl_hi β r, (by first | rfl | (simp only [n_lit, nI_add, pk_mul]; done) | (simp only [n_lit, nI_add, pk_mul]; exact congrArg nI (by omega))), by omega, fun h2 => ?_, fun h2 => ?_⟩
      · rw [hM.2.1 _ hhi] at h2
        exact skip (fun q => absurd q.2 (i_nlt.mpr h2))
      · rw [hM.2.1 _ hhi] at h2
        rintro M5 rfl
        refine ⟨65 + 10 * l + sl_lo β r, (by first | rfl | (simp only [n_lit, nI_add, pk_mul]; done) | (simp only [n_lit, nI_add, pk_mul]; exact congrArg nI (by omega))), by omega, ?_⟩
        rintro M9 rfl
        refine ⟨sl_hi β r, rfl, hhi, ?_⟩
        rintro M13 rfl
        refine ⟨sl_lo β r, rfl, hlo, ?_⟩
        intro M17 e17
        have hcc : sl_c (mI M0 (a + 1) 6) β ρ r := ⟨hc, i_nle.mp h2⟩
        have hsm : sl_next (mI M0 (a + 1) 6) β ρ 4 = some r := by
          rw [he, he2, if_pos hcc]
        have hs : SlM M0 a l (sl_move β (sl_hi β r) (sl_lo β r)) (sl_move ρ (sl_hi β r) (sl_lo β r)) M17 := by
          subst e17
          refine ⟨fun k hk => ?_, fun k hk => ?_, fun k hk => ?_, fun b h1 h2 h3 => ?_, hM.2.2.2.2⟩
          · simp only [mI_sI, up2_row]
            simp only [up2_off _ _ _ (show a + 16 ≠ a + 1 by omega), up2_row]
            unfold sl_move
            simp only [upd, hM.1 _ hk, hM.1 _ hhi, hM.1 _ hlo]
          · simp only [mI_sI]
            simp only [up2_off _ _ _ (show a + 1 ≠ a + 16 by omega), up2_row]
            unfold sl_move
            simp only [upd, hM.2.1 _ hk, hM.2.1 _ hhi, hM.2.1 _ hlo, Nat.add_left_cancel_iff]
          · simp only [mI_sI]
            simp only [up2_off _ _ _ (show a + 1 ≠ a + 16 by omega), up2_row]
            simp only [upd]
            rw [if_neg (by omega), if_neg (by omega)]
            exact hM.2.2.1 k hk
          · simp only [mI_sI]
            rw [up2_off _ _ _ h3, up2_off _ _ _ h3, up2_off _ _ _ h1, up2_off _ _ _ h1]
            exact hM.2.2.2.1 b h1 h2 h3
        have hfin := hsome r hsm M17 hs
        exact bX11_slide_92 hS ⟨fun _ => hfin, fun _ => ⟨fun _ => hfin, fun h => absurd h (by decide)⟩⟩
    refine bX11_slide_92 hS ⟨fun h2 => ?_, fun _ => ⟨fun h2 => absurd rfl h2, fun _ => ⟨r, rfl, by omega, r + 1, nI_1 r, by omega, ?_⟩⟩⟩
    · rw [nI_1] at h2
      exact absurd h2 (n5 (by omega))
    rintro v9 rfl v12 rfl v15 rfl
    rw [hT r (by omega), hT (r + 1) (by omega), h6]
    have eh : (if sl_far β r ≤ 0 then nI r + 1 else nI r) = nI (sl_hi β r) := by
      unfold sl_hi
      split
      · exact nI_1 r
      · rfl
    have el : (if sl_far β r ≤ 0 then nI r else nI r + 1) = nI (sl_lo β r) := by
      unfold sl_lo
      split
      · rfl
      · exact nI_1 r
    have ef : β r * 100 / areaV r - β (r + 1) * 100 / areaV (r + 1) = sl_far β r := rfl
    rw [ef, eh, el]
    refine ⟨fun h2 => hit (Or.inl h2), fun h2 => ⟨fun h3 => skip (fun q => ?_), fun h3 => hit (Or.inr h3)⟩⟩
    rcases q.1 with h4 | h4
    · exact h2 h4
    · exact h4 h3
theorem cl_slide_54 (G : Gl) (d : Nat) {X : Sh} {a l : Nat} {x4 : Int32} {Q : Mm → Prop} {β ρ : Nat → Int32} (hS : Sh10 X a) (M0 : Mm)
    (hk : ∀ M, SlM M0 a l β ρ M → (∀ r, r < 5 → mI M (a + 15) r = β r * 100 / areaV r) → Wv G m_X11_slide (d + 1) 92 [(0, .ref a), (2, .int (nI (65 + 10 * l))), (3, .int 0), (4, .int x4), (5, .int 0)] [] X M Q) :
    ∀ (n i : Nat) (M : Mm), i + n = 5 → SlM M0 a l β ρ M → (∀ r, r < i → mI M (a + 15) r = β r * 100 / areaV r) → Wv G m_X11_slide (d + 1) 54 [(0, .ref a), (2, .int (nI (65 + 10 * l))), (3, .int 0), (4, .int x4), (5, .int (nI i))] [] X M Q
  | 0, i, M, h, hM, hT => by
    have hi : i = 5 := h
    subst hi
    exact bX11_slide_54 hS ⟨fun _ => hk M hM hT, fun h => absurd (by decide) h⟩
  | n + 1, i, M, h, hM, hT => by
    refine bX11_slide_54 hS ⟨fun h2 => absurd h2 (n5 (by omega)), fun _ => ⟨i, rfl, by omega, (area_ok (by omega)).2, ?_⟩⟩
    rintro M6 rfl
    rw [nI_1, (area_ok (show i < 5 by omega)).1]
    refine cl_slide_54 G d hS M0 hk n (i + 1) _ (by omega) ⟨fun r hr => ?_, fun r hr => ?_, fun k hk2 => ?_, fun b h1 h2 h3 => ?_, hM.2.2.2.2⟩ (fun r hr => ?_)
    · rw [mI_sI, up2_off _ _ _ (by omega)]
      exact hM.1 r hr
    · rw [mI_sI, up2_off _ _ _ (by omega)]
      exact hM.2.1 r hr
    · rw [mI_sI, up2_off _ _ _ (by omega)]
      exact hM.2.2.1 k hk2
    · rw [mI_sI, up2_off _ _ _ h2]
      exact hM.2.2.2.1 b h1 h2 h3
    · rw [mI_sI]
      by_cases e : r = i
      · subst e
        rw [up2_same, hM.1 r (by omega)]
      · rw [up2_k _ _ _ e]
        exact hT r (by omega)
theorem cl_slide_37 (G : Gl) (d : Nat) {X : Sh} {a l : Nat} {Q : Mm → Prop} (hS : Sh10 X a) (hl : l < 24) (M0 : Mm) :
    ∀ (n i : Nat) (β ρ : Nat → Int32) (M : Mm), i + n = 400 → SlM M0 a l β ρ M → (∀ M2, SlM M0 a l (sl_iter (mI M0 (a + 1) 6) n β ρ).1 (sl_iter (mI M0 (a + 1) 6) n β ρ).2 M2 → Q M2) →
      Wv G m_X11_slide (d + 1) 37 [(0, .ref a), (2, .int (nI (65 + 10 * l))), (3, .int 1), (4, .int (nI i))] [] X M Q
  | 0, i, β, ρ, M, h, hM, hq => by
    have hi : i = 400 := h
    subst hi
    exact bX11_slide_37 hS ⟨fun _ => hq M hM, fun h => absurd (by decide) h⟩
  | n + 1, i, β, ρ, M, h, hM, hq => by
    refine bX11_slide_37 hS ⟨fun h2 => ?_, fun _ => ⟨fun h2 => absurd h2 (by decide), fun _ => ?_⟩⟩
    · have := (nI_leI (a := 400) (by omega) (by omega)).mp h2
      omega
    · refine cl_slide_54 G d hS M0 (β := β) (ρ := ρ) (fun M2 hM2 hT => ?_) 5 0 M rfl hM (fun r hr => absurd hr (by omega))
      refine cl_slide_92 G d hS hl M0 hM2 hT (fun hn => ?_) (fun r hr M3 hM3 => ?_) 4 0 rfl rfl
      · rw [sl_iter_none hn] at hq
        exact bX11_slide_37 hS ⟨fun _ => hq M2 hM2, fun _ => ⟨fun _ => hq M2 hM2, fun h => absurd rfl h⟩⟩
      · rw [nI_1]
        rw [sl_iter_some hr] at hq
        exact cl_slide_37 G d hS hl M0 n (i + 1) _ _ M3 (by omega) hM3 hq
theorem cl_slide_10 (G : Gl) (d : Nat) (hd : 1 ≤ d) {X : Sh} {a l nl : Nat} {Q : Mm → Prop} (hS : Sh10 X a) (hnl : nl ≤ 24) (M0 : Mm) (hn : mI M0 (a + 1) 1 = nI nl)
    (hk : ∀ M, SlM M0 a l (fun r => s_bulkIn (mI M0 (a + 1)) r nl) (fun r => mI M0 (a + 1) (65 + 10 * l + r)) M → Wv G m_X11_slide (d + 1) 37 [(0, .ref a), (2, .int (nI (65 + 10 * l))), (3, .int 1), (4, .int 0)] [] X M Q) :
    ∀ (n i : Nat) (M : Mm), i + n = 5 → (∀ r, r < i → mI M (a + 16) r = s_bulkIn (mI M0 (a + 1)) r nl) → (∀ b, b ≠ a + 16 → mI M b = mI M0 b) → mR M = mR M0 → Wv G m_X11_slide (d + 1) 10 [(0, .ref a), (2, .int (nI (65 + 10 * l))), (3, .int (nI i))] [] X M Q
  | 0, i, M, h, h1, h2, h3 => by
    have hi : i = 5 := h
    subst hi
    refine bX11_slide_10 hS ⟨fun _ => hk M ⟨h1, fun r hr => ?_, fun k _ => ?_, fun b hb1 hb2 hb3 => h2 b hb3, h3⟩, fun h => absurd (by decide) h⟩
    · rw [h2 _ (by omega)]
    · rw [h2 _ (by omega)]
  | n + 1, i, M, h, h1, h2, h3 => by
    have e1 : mI M (a + 1) = mI M0 (a + 1) := h2 _ (by omega)
    refine bX11_slide_10 hS ⟨fun h2 => absurd h2 (n5 (by omega)), fun _ => ⟨_, cp_X11_bulkIn G d hd X M a i nl hS (by omega) (by rw [e1]; exact hn) hnl, ?_⟩⟩
    rintro M2 _ ⟨e, rfl⟩
    have e := e.symm
    subst e
    refine ⟨i, rfl, by omega, ?_⟩
    rintro M10 rfl
    rw [nI_1]
    refine cl_slide_10 G d hd hS hnl M0 hn hk n (i + 1) _ (by omega) (fun r hr => ?_) (fun b hb => ?_) h3
    · rw [mI_sI]
      by_cases e : r = i
      · subst e
        rw [up2_same, e1]
      · rw [up2_k _ _ _ e]
        exact h1 r (by omega)
    · rw [mI_sI, up2_off _ _ _ hb]
      exact h2 b hb
theorem cp_X11_slide (G : Gl) (d : Nat) (hd : 2 ≤ d) (X : Sh) (M : Mm) (a l nl : Nat) (hS : Sh10 X a) (hl : l < 24) (hnl : nl ≤ 24) (hn : mI M (a + 1) 1 = nI nl) : Cv G m_X11_slide d [.ref a, .int (nI l)] X M (fun M2 => mI M2 (a + 1) = s_slide (mI M (a + 1)) nl l ∧ (∀ b, b ≠ a + 1 → b ≠ a + 15 → b ≠ a + 16 → mI M2 b = mI M b) ∧ mR M2 = mR M) := by
  obtain ⟨d, rfl⟩ : ∃ d1, d = d1 + 1 := ⟨d - 1, by omega⟩
  refine Cv.of (by decide) (Nat.le_of_ble_eq_true rfl) (bX11_slide_0 hS ?_)
  rintro v1 rfl
  have e : 60 + 10 * nI l + 5 = nI (65 + 10 * l) := (by first | rfl | (simp only [n_lit, nI_add, pk_mul]; done) | (simp only [n_lit, nI_add, pk_mul]; exact congrArg nI (by omega)))
  rw [e]
  refine cl_slide_10 G d (by omega) hS hnl M hn (fun M2 hM2 => ?_) 5 0 M rfl (fun r hr => absurd hr (by omega)) (fun _ _ => rfl) rfl
  refine cl_slide_37 G d hS hl M 400 0 _ _ M2 rfl hM2 (fun M3 hM3 => ⟨?_, hM3.2.2.2.1, hM3.2.2.2.2⟩)
  funext k
  unfold s_slide
  by_cases hk : 65 + 10 * l ≤ k ∧ k < 70 + 10 * l
  · rw [if_pos hk]
    have h1 := hM3.2.1 (k - (65 + 10 * l)) (by omega)
    rw [show 65 + 10 * l + (k - (65 + 10 * l)) = k by omega] at h1
    exact h1
  · rw [if_neg hk]
    exact hM3.2.2.1 k hk
