/-! the class's texts -/
theorem i_div_m1 (x : Int32) : x / -1 = -x := by
  apply Int32.toInt_inj.mp
  have e : (-1 : Int32).toInt = -1 := rfl
  rw [Int32.toInt_div, e, Int32.toInt_neg, Int.tdiv_neg, Int.tdiv_one]
theorem join_eq {c : Nat} {x y : Int32} (h : c ∈ [38, 42, 43, 45, 47, 60, 61, 62, 124]) : f_join (nI c) x y = g_join (nI c) x y := by
  simp only [List.mem_cons, List.not_mem_nil, or_false] at h
  rcases h with rfl | rfl | rfl | rfl | rfl | rfl | rfl | rfl | rfl
  · rfl
  · rfl
  · rfl
  · rfl
  · show (if y = 0 then 0 else x / y) = (if y = 0 then 0 else if y = -1 then -x else x / y)
    by_cases h : y = -1
    · subst h
      rw [if_neg (by decide), if_neg (by decide), if_pos rfl, i_div_m1]
    · rw [if_neg h]
  · rfl
  · rfl
  · rfl
  · rfl
/-- a step of a text as the class keeps it -/
def e_code (w v : Int32) : Int32 := if w = 0 then v else if w = 1 then 10000 + (v - 97) else -v
/-- text t of the class's texts at a is the flat row's -/
def TXt (M : Mm) (a : Nat) (σ : Nat → Int32) (t : Nat) : Prop := (∃ v : Nat, v ≤ 7 ∧ σ (340 + 200 * t) = nI v ∧ mI M (a + 1) t = nI (if v ≤ 5 then 0 else v - 5) ∧ mI M (a + 2) t = (if v ≤ 5 then nI v else -1000000005)) ∧ mI M (a + 3) t = σ (341 + 200 * t) ∧ mI M (a + 17) t = σ (342 + 200 * t) ∧ T_ok σ t ∧ ∀ k, (nI k < σ (342 + 200 * t)) → k < 96 → mI M (a + 5 + t) k = e_code (σ (344 + 200 * t + 2 * k)) (σ (344 + 200 * t + 2 * k + 1))
def TRep (M : Mm) (a : Nat) (σ : Nat → Int32) (nx : Nat) : Prop := mI M a 5 = nI nx ∧ ∀ t, t < nx → TXt M a σ t
/-- a key and bin that is asked for, and the flat row's number of it -/
def LK (x1 x2 : Int32) (v0 : Nat) : Prop := (v0 ≤ 5 ∧ x1 = 0 ∧ x2 = nI v0) ∨ (v0 = 6 ∧ x1 = 1) ∨ (v0 = 7 ∧ x1 = 2)
theorem bX9_lastOf_0 {G : Gl} {d : Nat} {X : Sh} {M : Mm} {Q : Mm → Int32 → Prop} {a : Nat} {x1 : Int32} {x2 : Int32} (hS : Sh8 X a) (h : (∀ v1 : Int32, v1 = ((mI M a 5) - 1) → Wn G m_X9_lastOf d 7 [(0, .ref a), (1, .int x1), (2, .int x2), (3, .int v1)] [] X M Q)) : Wn G m_X9_lastOf d 0 [(0, .ref a), (1, .int x1), (2, .int x2)] [] X M Q := by
  refine wp_aload_n 0 dX9_lastOf_0 rfl rfl ?_
  refine wp_getI dX9_lastOf_1 fl_RX9_29 rfl (sh8_K hS) ?_
  refine wp_iconst (v := 1) dX9_lastOf_4 rfl ?_
  refine wp_isub dX9_lastOf_5 ?_
  refine wp_topi (fun v1 ev1 => ?_)
  replace h := h v1 ev1
  refine wp_istore_n (lo2 := [(3, .int _), (0, .ref _), (1, .int _), (2, .int _)]) dX9_lastOf_6 rfl (by decide) rfl ?_
  exact Wp.sub [1, 2, 3, 0] rfl h
theorem bX9_lastOf_7 {G : Gl} {d : Nat} {X : Sh} {M : Mm} {Q : Mm → Int32 → Prop} {a : Nat} {x1 : Int32} {x2 : Int32} {x3 : Int32} (hS : Sh8 X a) (h : ((x3 < 0 → Q M (-1)) ∧ (¬ (x3 < 0) → (∃ j2 : Nat, x3 = nI j2 ∧ j2 < 12 ∧ ((¬ ((mI M (a + 1) j2) = x1) → Wn G m_X9_lastOf d 7 [(0, .ref a), (1, .int x1), (2, .int x2), (3, .int (x3 + (-1)))] [] X M Q) ∧ ((mI M (a + 1) j2) = x1 → ((¬ (x1 = 0) → Q M x3) ∧ (x1 = 0 → ((¬ ((mI M (a + 2) j2) = x2) → Wn G m_X9_lastOf d 7 [(0, .ref a), (1, .int x1), (2, .int x2), (3, .int (x3 + (-1)))] [] X M Q) ∧ ((mI M (a + 2) j2) = x2 → Q M x3)))))))))) : Wn G m_X9_lastOf d 7 [(0, .ref a), (1, .int x1), (2, .int x2), (3, .int x3)] [] X M Q := by
  refine wp_iload_n 3 dX9_lastOf_7 rfl rfl ?_
  refine wp_if_lt (tgt := 43) dX9_lastOf_8 (by decide) (fun c1 => ?_) (fun c1 => ?_)
  · replace h := h.1 c1
    refine wp_iconst (v := (-1)) dX9_lastOf_43 rfl ?_
    exact wn_iret dX9_lastOf_44 rfl h
  · replace h := h.2 c1
    refine wp_aload_n 0 dX9_lastOf_11 rfl rfl ?_
    refine wp_getR dX9_lastOf_12 fl_RX9_9 rfl (sh8_K hS) (sh8_F_key hS) ?_
    refine wp_iload_n 3 dX9_lastOf_15 rfl rfl ?_
    obtain ⟨j2, o3, o4, h⟩ := h
    refine wp_iald (n := 12) dX9_lastOf_16 (sh8_K_key hS) (sh8_N_key hS) (by decide) o3 o4 ?_
    refine wp_iload_n 1 dX9_lastOf_17 rfl rfl ?_
    refine wp_icmp_ne (tgt := 37) dX9_lastOf_18 (by decide) (fun c5 => ?_) (fun c5 => ?_)
    · replace h := h.1 c5
      refine wp_iinc (v := x3 + (-1)) (lo2 := [(3, .int _), (0, .ref _), (1, .int _), (2, .int _)]) dX9_lastOf_37 (q := 3) rfl rfl (by decide) rfl ?_
      refine wp_goto (tgt := 7) dX9_lastOf_40 (by decide) ?_
      exact Wp.sub [1, 2, 3, 0] rfl h
    · replace h := h.2 c5
      refine wp_iload_n 1 dX9_lastOf_21 rfl rfl ?_
      refine wp_if_ne (tgt := 35) dX9_lastOf_22 (by decide) (fun c6 => ?_) (fun c6 => ?_)
      · replace h := h.1 c6
        refine wp_iload_n 3 dX9_lastOf_35 rfl rfl ?_
        exact wn_iret dX9_lastOf_36 rfl h
      · replace h := h.2 c6
        refine wp_aload_n 0 dX9_lastOf_25 rfl rfl ?_
        refine wp_getR dX9_lastOf_26 fl_RX9_15 rfl (sh8_K hS) (sh8_F_bin hS) ?_
        refine wp_iload_n 3 dX9_lastOf_29 rfl rfl ?_
        refine wp_iald (n := 12) dX9_lastOf_30 (sh8_K_bin hS) (sh8_N_bin hS) (by decide) o3 o4 ?_
        refine wp_iload_n 2 dX9_lastOf_31 rfl rfl ?_
        refine wp_icmp_ne (tgt := 37) dX9_lastOf_32 (by decide) (fun c7 => ?_) (fun c7 => ?_)
        · replace h := h.1 c7
          refine wp_iinc (v := x3 + (-1)) (lo2 := [(3, .int _), (0, .ref _), (1, .int _), (2, .int _)]) dX9_lastOf_37 (q := 3) rfl rfl (by decide) rfl ?_
          refine wp_goto (tgt := 7) dX9_lastOf_40 (by decide) ?_
          exact Wp.sub [1, 2, 3, 0] rfl h
        · replace h := h.2 c7
          refine wp_iload_n 3 dX9_lastOf_35 rfl rfl ?_
          exact wn_iret dX9_lastOf_36 rfl h
theorem bX9_name_0 {G : Gl} {d : Nat} {X : Sh} {M : Mm} {Q : Mm → Prop} {a : Nat} {x1 : Int32} {x2 : Int32} (hS : Sh8 X a) (h : ((x1 < 97 → Q M) ∧ (¬ (x1 < 97) → ((122 < x1 → Q M) ∧ (¬ (122 < x1) → (∃ j3 : Nat, (x1 - 97) = nI j3 ∧ j3 < 26 ∧ (∀ M6 : Mm, M6 = sI M (a + 18) j3 x2 → Q M6))))))) : Wv G m_X9_name d 0 [(0, .ref a), (1, .int x1), (2, .int x2)] [] X M Q := by
  refine wp_iload_n 1 dX9_name_0 rfl rfl ?_
  refine wp_bipush (v := 97) dX9_name_1 rfl ?_
  refine wp_icmp_lt (tgt := 22) dX9_name_3 (by decide) (fun c1 => ?_) (fun c1 => ?_)
  · replace h := h.1 c1
    exact wv_ret dX9_name_22 rfl h
  · replace h := h.2 c1
    refine wp_iload_n 1 dX9_name_6 rfl rfl ?_
    refine wp_bipush (v := 122) dX9_name_7 rfl ?_
    refine wp_icmp_gt (tgt := 22) dX9_name_9 (by decide) (fun c2 => ?_) (fun c2 => ?_)
    · replace h := h.1 c2
      exact wv_ret dX9_name_22 rfl h
    · replace h := h.2 c2
      refine wp_aload_n 0 dX9_name_12 rfl rfl ?_
      refine wp_getR dX9_name_13 fl_RX9_33 rfl (sh8_K hS) (sh8_F_named hS) ?_
      refine wp_iload_n 1 dX9_name_16 rfl rfl ?_
      refine wp_bipush (v := 97) dX9_name_17 rfl ?_
      refine wp_isub dX9_name_19 ?_
      refine wp_iload_n 2 dX9_name_20 rfl rfl ?_
      obtain ⟨j3, o4, o5, h⟩ := h
      refine wp_iast (n := 26) dX9_name_21 (sh8_K_named hS) (sh8_N_named hS) (by decide) o4 o5 ?_
      refine wp_nm (fun M6 eM6 => ?_)
      replace h := h M6 eM6
      exact wv_ret dX9_name_22 rfl h
theorem bX9_valueOf_0 {G : Gl} {d : Nat} {X : Sh} {M : Mm} {Q : Mm → Int32 → Prop} {a : Nat} {x1 : Int32} (hS : Sh8 X a) (h : ((x1 < 0 → Q M 0) ∧ (¬ (x1 < 0) → ((26 ≤ x1 → Q M 0) ∧ (¬ (26 ≤ x1) → (∃ j3 : Nat, x1 = nI j3 ∧ j3 < 26 ∧ Q M (mI M (a + 18) j3))))))) : Wn G m_X9_valueOf d 0 [(0, .ref a), (1, .int x1)] [] X M Q := by
  refine wp_iload_n 1 dX9_valueOf_0 rfl rfl ?_
  refine wp_if_lt (tgt := 19) dX9_valueOf_1 (by decide) (fun c1 => ?_) (fun c1 => ?_)
  · replace h := h.1 c1
    refine wp_iconst (v := 0) dX9_valueOf_19 rfl ?_
    exact wn_iret dX9_valueOf_20 rfl h
  · replace h := h.2 c1
    refine wp_iload_n 1 dX9_valueOf_4 rfl rfl ?_
    refine wp_bipush (v := 26) dX9_valueOf_5 rfl ?_
    refine wp_icmp_ge (tgt := 19) dX9_valueOf_7 (by decide) (fun c2 => ?_) (fun c2 => ?_)
    · replace h := h.1 c2
      refine wp_iconst (v := 0) dX9_valueOf_19 rfl ?_
      exact wn_iret dX9_valueOf_20 rfl h
    · replace h := h.2 c2
      refine wp_aload_n 0 dX9_valueOf_10 rfl rfl ?_
      refine wp_getR dX9_valueOf_11 fl_RX9_33 rfl (sh8_K hS) (sh8_F_named hS) ?_
      refine wp_iload_n 1 dX9_valueOf_14 rfl rfl ?_
      obtain ⟨j3, o4, o5, h⟩ := h
      refine wp_iald (n := 26) dX9_valueOf_15 (sh8_K_named hS) (sh8_N_named hS) (by decide) o4 o5 ?_
      refine wp_goto (tgt := 20) dX9_valueOf_16 (by decide) ?_
      exact wn_iret dX9_valueOf_20 rfl h
theorem cl_X9_lastOf (G : Gl) (d : Nat) {X : Sh} {M : Mm} {a nx v0 : Nat} {x1 x2 : Int32} {σ : Nat → Int32} {Q : Mm → Int32 → Prop} (hS : Sh8 X a) (hnx : nx ≤ 12) (hT : TRep M a σ nx) (hk : LK x1 x2 v0) :
    ∀ n, n ≤ nx → Q M (s_counts σ (nI v0) n) → Wn G m_X9_lastOf d 7 [(0, .ref a), (1, .int x1), (2, .int x2), (3, .int (nI n + (-1)))] [] X M Q
  | 0, _, hq => bX9_lastOf_7 hS ⟨fun _ => hq, fun h => absurd (by decide) h⟩
  | n + 1, hn, hq => by
    rw [pk_m1]
    obtain ⟨⟨v, hv, h1, h2, h3⟩, _⟩ := hT.2 n (by omega)
    have ih : Q M (s_counts σ (nI v0) n) → Wn G m_X9_lastOf d 7 [(0, .ref a), (1, .int x1), (2, .int x2), (3, .int (nI n + (-1)))] [] X M Q := cl_X9_lastOf G d hS hnx hT hk n (by omega)
    have v0v : v0 ≤ 7 := by
      rcases hk with h | h | h <;> omega
    have e2 : σ (340 + 200 * n) = nI v0 ↔ v = v0 := by
      rw [h1]
      exact nI_inj (by omega) (by omega)
    have hq2 : (v = v0 → Q M (nI n)) ∧ (¬ v = v0 → Q M (s_counts σ (nI v0) n)) := by
      have e : s_counts σ (nI v0) (n + 1) = if σ (340 + 200 * n) = nI v0 then nI n else s_counts σ (nI v0) n := rfl
      refine ⟨fun q => ?_, fun q => ?_⟩
      · rw [e, if_pos (e2.mpr q)] at hq
        exact hq
      · rw [e, if_neg (fun r => q (e2.mp r))] at hq
        exact hq
    refine bX9_lastOf_7 hS ⟨fun h => absurd h (nI_pos (by omega)), fun _ => ⟨n, rfl, by omega, fun h4 => ?_, fun h4 => ⟨fun h5 => ?_, fun h5 => ⟨fun h6 => ?_, fun h6 => ?_⟩⟩⟩⟩
    · refine ih (hq2.2 (fun q => ?_))
      · subst q
        apply h4
        rw [h2]
        rcases hk with ⟨q1, q2, q3⟩ | ⟨q1, q2⟩ | ⟨q1, q2⟩
        · rw [if_pos q1, q2]
          rfl
        · rw [q1, q2]
          rfl
        · rw [q1, q2]
          rfl
    · refine hq2.1 ?_
      · rw [h2] at h4
        rcases hk with ⟨q1, q2, q3⟩ | ⟨q1, q2⟩ | ⟨q1, q2⟩
        · exact absurd q2 h5
        · rw [q2, n_lit 1, nI_inj (by split <;> omega) (by omega)] at h4
          split at h4 <;> omega
        · rw [q2, n_lit 2, nI_inj (by split <;> omega) (by omega)] at h4
          split at h4 <;> omega
    · refine ih (hq2.2 (fun q => ?_))
      · subst q
        apply h6
        rw [h3]
        rcases hk with ⟨q1, q2, q3⟩ | ⟨q1, q2⟩ | ⟨q1, q2⟩
        · rw [if_pos q1, q3]
        · rw [h5] at q2
          exact absurd q2 (by decide)
        · rw [h5] at q2
          exact absurd q2 (by decide)
    · refine hq2.1 ?_
      · rcases hk with ⟨q1, q2, q3⟩ | ⟨q1, q2⟩ | ⟨q1, q2⟩
        · rw [h3, q3] at h6
          rw [h2, q2, n_lit 0, nI_inj (by split <;> omega) (by omega)] at h4
          split at h6
          · exact (nI_inj (by omega) (by omega)).mp h6
          · split at h4 <;> omega
        · rw [h5] at q2
          exact absurd q2 (by decide)
        · rw [h5] at q2
          exact absurd q2 (by decide)
theorem cp_X9_lastOf (G : Gl) (d : Nat) (X : Sh) (M : Mm) (a nx v0 : Nat) (x1 x2 : Int32) (σ : Nat → Int32) (hS : Sh8 X a) (hnx : nx ≤ 12) (hT : TRep M a σ nx) (hk : LK x1 x2 v0) : Cn G m_X9_lastOf d [.ref a, .int x1, .int x2] X M (fun M2 x => M2 = M ∧ x = s_counts σ (nI v0) nx) := by
  refine Cn.of (by decide) (Nat.le_of_ble_eq_true rfl) (bX9_lastOf_0 hS ?_)
  rintro v1 rfl
  rw [hT.1]
  have e : nI nx - 1 = nI nx + (-1) := Int32.sub_eq_add_neg _ _
  rw [e]
  exact cl_X9_lastOf G d hS hnx hT hk nx (Nat.le_refl _) ⟨rfl, rfl⟩
theorem cp_X9_name (G : Gl) (d : Nat) (X : Sh) (M : Mm) (a c : Nat) (v : Int32) (hS : Sh8 X a) (h1 : 97 ≤ c) (h2 : c ≤ 122) : Cv G m_X9_name d [.ref a, .int (nI c), .int v] X M (fun M2 => M2 = sI M (a + 18) (c - 97) v) := by
  refine Cv.of (by decide) (Nat.le_of_ble_eq_true rfl) (bX9_name_0 hS ⟨fun h => ?_, fun _ => ⟨fun h => ?_, fun _ => ⟨c - 97, ?_, by omega, fun M6 e => e⟩⟩⟩)
  · have := (nI_ltI (b := 97) (by omega) (by omega)).mp h
    omega
  · have := (nI_ltI (a := 122) (by omega) (by omega)).mp h
    omega
  · rw [n_lit 97, nI_subI _ _ h1]
theorem cp_X9_valueOf (G : Gl) (d : Nat) (X : Sh) (M : Mm) (a c : Nat) (hS : Sh8 X a) (h1 : c < 26) : Cn G m_X9_valueOf d [.ref a, .int (nI c)] X M (fun M2 x => M2 = M ∧ x = mI M (a + 18) c) := by
  refine Cn.of (by decide) (Nat.le_of_ble_eq_true rfl) (bX9_valueOf_0 hS ⟨fun h => absurd h (nI_pos (by omega)), fun _ => ⟨fun h => ?_, fun _ => ⟨c, rfl, h1, rfl, rfl⟩⟩⟩)
  have := (nI_leI (a := 26) (by omega) (by omega)).mp h
  omega
theorem nm_any {key : Int32} {c : Nat} (h : nm_ok key c) : 97 ≤ c ∧ c ≤ 122 := by
  obtain ⟨h1, h2⟩ := h
  have q : ∀ k : Nat, k < 128 → nI c = nI k → c = k := fun k hk e => (nI_inj (by omega) (by omega)).mp e
  unfold p_isName at h2
  split at h2
  · rcases h2 with h | h | h
    · have := q 104 (by omega) h; omega
    · have := q 116 (by omega) h; omega
    · have := q 105 (by omega) h; omega
  · split at h2
    · rcases h2 with h | h
      · have := q 104 (by omega) h; omega
      · have := q 99 (by omega) h; omega
    · rcases h2 with h | h | h | h
      · have := q 104 (by omega) h; omega
      · have := q 116 (by omega) h; omega
      · have := q 98 (by omega) h; omega
      · have := q 115 (by omega) h; omega
theorem bX9_worth_0 {G : Gl} {d : Nat} {X : Sh} {M : Mm} {Q : Mm → Int32 → Prop} {a : Nat} {x1 : Int32} (hS : Sh8 X a) (h : Wn G m_X9_worth (d + 1) 4 [(0, .ref a), (1, .int x1), (2, .int 0), (3, .int 0)] [] X M Q) : Wn G m_X9_worth (d + 1) 0 [(0, .ref a), (1, .int x1)] [] X M Q := by
  refine wp_iconst (v := 0) dX9_worth_0 rfl ?_
  refine wp_istore_n (lo2 := [(2, .int _), (0, .ref _), (1, .int _)]) dX9_worth_1 rfl (by decide) rfl ?_
  refine wp_iconst (v := 0) dX9_worth_2 rfl ?_
  refine wp_istore_n (lo2 := [(3, .int _), (2, .int _), (0, .ref _), (1, .int _)]) dX9_worth_3 rfl (by decide) rfl ?_
  exact Wp.sub [2, 3, 1, 0] rfl h
theorem bX9_worth_4 {G : Gl} {d : Nat} {X : Sh} {M : Mm} {Q : Mm → Int32 → Prop} {a : Nat} {x1 : Int32} {x2 : Int32} {x3 : Int32} (hS : Sh8 X a) (h : (∃ j1 : Nat, x1 = nI j1 ∧ j1 < 12 ∧ (((mI M (a + 17) j1) ≤ x3 → Q M (mI M (a + 19) 0)) ∧ (¬ ((mI M (a + 17) j1) ≤ x3) → (∃ j5 : Nat, x3 = nI j5 ∧ j5 < 96 ∧ (∀ v8 : Int32, v8 = (mI M (a + 5 + j1) j5) → ((v8 < 0 → ((¬ (v8 = (-33)) → ((x2 < 2 → Wn G m_X9_worth (d + 1) 4 [(0, .ref a), (1, .int x1), (2, .int x2), (3, .int (x3 + 1))] [] X M Q) ∧ (¬ (x2 < 2) → (∃ j12 : Nat, (x2 + (-1) - 1) = nI j12 ∧ j12 < 96 ∧ (∃ j15 : Nat, x2 + (-1) = nI j15 ∧ j15 < 96 ∧ (∀ M18 : Mm, M18 = sI M (a + 19) j12 (f_join (-v8) (mI M (a + 19) j12) (mI M (a + 19) j15)) → Wn G m_X9_worth (d + 1) 4 [(0, .ref a), (1, .int x1), (2, .int (x2 + (-1))), (3, .int (x3 + 1))] [] X M18 Q)))))) ∧ (v8 = (-33) → ((x2 < 1 → Wn G m_X9_worth (d + 1) 4 [(0, .ref a), (1, .int x1), (2, .int x2), (3, .int (x3 + 1))] [] X M Q) ∧ (¬ (x2 < 1) → (∃ j20 : Nat, (x2 - 1) = nI j20 ∧ j20 < 96 ∧ (∀ M25 : Mm, M25 = sI M (a + 19) j20 (if (mI M (a + 19) j20) = 0 then 1 else 0) → Wn G m_X9_worth (d + 1) 4 [(0, .ref a), (1, .int x1), (2, .int x2), (3, .int (x3 + 1))] [] X M25 Q))))))) ∧ (¬ (v8 < 0) → ((96 ≤ x2 → Wn G m_X9_worth (d + 1) 4 [(0, .ref a), (1, .int x1), (2, .int x2), (3, .int (x3 + 1))] [] X M Q) ∧ (¬ (96 ≤ x2) → ((10000 ≤ v8 → (∃ q28 : Mm → Int32 → Prop, Cn G m_X9_valueOf d [.ref a, .int ((v8 - 10000))] X M q28 ∧ ∀ M30 r31, q28 M30 r31 → (∃ j33 : Nat, x2 = nI j33 ∧ j33 < 96 ∧ (∀ M36 : Mm, M36 = sI M30 (a + 19) j33 r31 → Wn G m_X9_worth (d + 1) 4 [(0, .ref a), (1, .int x1), (2, .int (x2 + 1)), (3, .int (x3 + 1))] [] X M36 Q)))) ∧ (¬ (10000 ≤ v8) → (∃ j37 : Nat, x2 = nI j37 ∧ j37 < 96 ∧ (∀ M40 : Mm, M40 = sI M (a + 19) j37 v8 → Wn G m_X9_worth (d + 1) 4 [(0, .ref a), (1, .int x1), (2, .int (x2 + 1)), (3, .int (x3 + 1))] [] X M40 Q)))))))))))))) : Wn G m_X9_worth (d + 1) 4 [(0, .ref a), (1, .int x1), (2, .int x2), (3, .int x3)] [] X M Q := by
  refine wp_iload_n 3 dX9_worth_4 rfl rfl ?_
  refine wp_aload_n 0 dX9_worth_5 rfl rfl ?_
  refine wp_getR dX9_worth_6 fl_RX9_26 rfl (sh8_K hS) (sh8_F_codes hS) ?_
  refine wp_iload_n 1 dX9_worth_9 rfl rfl ?_
  obtain ⟨j1, o2, o3, h⟩ := h
  refine wp_iald (n := 12) dX9_worth_10 (sh8_K_codes hS) (sh8_N_codes hS) (by decide) o2 o3 ?_
  refine wp_icmp_ge (tgt := 151) dX9_worth_11 (by decide) (fun c4 => ?_) (fun c4 => ?_)
  · replace h := h.1 c4
    refine wp_aload_n 0 dX9_worth_151 rfl rfl ?_
    refine wp_getR dX9_worth_152 fl_RX9_36 rfl (sh8_K hS) (sh8_F_stack hS) ?_
    refine wp_iconst (v := 0) dX9_worth_155 rfl ?_
    refine wp_iald (n := 96) dX9_worth_156 (sh8_K_stack hS) (sh8_N_stack hS) (by decide) rfl (by decide) ?_
    exact wn_iret dX9_worth_157 rfl h
  · replace h := h.2 c4
    refine wp_aload_n 0 dX9_worth_14 rfl rfl ?_
    refine wp_getR dX9_worth_15 fl_RX9_23 rfl (sh8_K hS) (sh8_F_code hS) ?_
    refine wp_iload_n 1 dX9_worth_18 rfl rfl ?_
    refine wp_fald (n := 12) dX9_worth_19 (Or.inr <| Or.inr (sh8_K_code hS)) (sh8_N_code hS) (by decide) o2 o3 (sh8_E_code hS j1 o3) ?_
    refine wp_iload_n 3 dX9_worth_20 rfl rfl ?_
    obtain ⟨j5, o6, o7, h⟩ := h
    refine wp_iald (n := 96) dX9_worth_21 (sh8_EK_code hS j1 o3) (sh8_EN_code hS j1 o3) (by decide) o6 o7 ?_
    refine wp_topi (fun v8 ev8 => ?_)
    replace h := h v8 ev8
    refine wp_istore (lo2 := [(4, .int _), (0, .ref _), (1, .int _), (2, .int _), (3, .int _)]) dX9_worth_22 (by decide) rfl ?_
    refine wp_iload 0 dX9_worth_24 rfl ?_
    refine wp_if_lt (tgt := 70) dX9_worth_26 (by decide) (fun c9 => ?_) (fun c9 => ?_)
    · replace h := h.1 c9
      refine wp_iload 0 dX9_worth_70 rfl ?_
      refine wp_bipush (v := (-33)) dX9_worth_72 rfl ?_
      refine wp_icmp_ne (tgt := 109) dX9_worth_74 (by decide) (fun c10 => ?_) (fun c10 => ?_)
      · replace h := h.1 c10
        refine wp_iload_n 3 dX9_worth_109 rfl rfl ?_
        refine wp_iconst (v := 2) dX9_worth_110 rfl ?_
        refine wp_icmp_lt (tgt := 145) dX9_worth_111 (by decide) (fun c11 => ?_) (fun c11 => ?_)
        · replace h := h.1 c11
          refine wp_iinc (v := x3 + 1) (lo2 := [(3, .int _), (4, .int _), (0, .ref _), (1, .int _), (2, .int _)]) dX9_worth_145 (q := 4) rfl rfl (by decide) rfl ?_
          refine wp_goto (tgt := 4) dX9_worth_148 (by decide) ?_
          exact Wp.sub [2, 3, 4, 0] rfl h
        · replace h := h.2 c11
          refine wp_iinc (v := x2 + (-1)) (lo2 := [(2, .int _), (4, .int _), (0, .ref _), (1, .int _), (3, .int _)]) dX9_worth_114 (q := 3) rfl rfl (by decide) rfl ?_
          refine wp_aload_n 2 dX9_worth_117 rfl rfl ?_
          refine wp_getR dX9_worth_118 fl_RX9_36 rfl (sh8_K hS) (sh8_F_stack hS) ?_
          refine wp_iload_n 0 dX9_worth_121 rfl rfl ?_
          refine wp_iconst (v := 1) dX9_worth_122 rfl ?_
          refine wp_isub dX9_worth_123 ?_
          refine wp_iload 1 dX9_worth_124 rfl ?_
          refine wp_ineg dX9_worth_126 ?_
          refine wp_aload_n 2 dX9_worth_127 rfl rfl ?_
          refine wp_getR dX9_worth_128 fl_RX9_36 rfl (sh8_K hS) (sh8_F_stack hS) ?_
          refine wp_iload_n 0 dX9_worth_131 rfl rfl ?_
          refine wp_iconst (v := 1) dX9_worth_132 rfl ?_
          refine wp_isub dX9_worth_133 ?_
          obtain ⟨j12, o13, o14, h⟩ := h
          refine wp_iald (n := 96) dX9_worth_134 (sh8_K_stack hS) (sh8_N_stack hS) (by decide) o13 o14 ?_
          refine wp_aload_n 2 dX9_worth_135 rfl rfl ?_
          refine wp_getR dX9_worth_136 fl_RX9_36 rfl (sh8_K hS) (sh8_F_stack hS) ?_
          refine wp_iload_n 0 dX9_worth_139 rfl rfl ?_
          obtain ⟨j15, o16, o17, h⟩ := h
          refine wp_iald (n := 96) dX9_worth_140 (sh8_K_stack hS) (sh8_N_stack hS) (by decide) o16 o17 ?_
          refine wp_csip dX9_worth_141 ck_RX9_62 rfl (as := [.int (-v8), .int ((mI M (a + 19) j12)), .int ((mI M (a + 19) j15))]) rfl rfl (Nat.le_of_ble_eq_true rfl) (cp_X9_joined G d X M (-v8) (mI M (a + 19) j12) (mI M (a + 19) j15)) ?_
          refine wp_iast (n := 96) dX9_worth_144 (sh8_K_stack hS) (sh8_N_stack hS) (by decide) o13 o14 ?_
          refine wp_nm (fun M18 eM18 => ?_)
          replace h := h M18 eM18
          refine wp_iinc (v := x3 + 1) (lo2 := [(3, .int _), (2, .int _), (4, .int _), (0, .ref _), (1, .int _)]) dX9_worth_145 (q := 4) rfl rfl (by decide) rfl ?_
          refine wp_goto (tgt := 4) dX9_worth_148 (by decide) ?_
          exact Wp.sub [3, 4, 1, 0] rfl h
      · replace h := h.2 c10
        refine wp_iload_n 3 dX9_worth_77 rfl rfl ?_
        refine wp_iconst (v := 1) dX9_worth_78 rfl ?_
        refine wp_icmp_lt (tgt := 145) dX9_worth_79 (by decide) (fun c19 => ?_) (fun c19 => ?_)
        · replace h := h.1 c19
          refine wp_iinc (v := x3 + 1) (lo2 := [(3, .int _), (4, .int _), (0, .ref _), (1, .int _), (2, .int _)]) dX9_worth_145 (q := 4) rfl rfl (by decide) rfl ?_
          refine wp_goto (tgt := 4) dX9_worth_148 (by decide) ?_
          exact Wp.sub [2, 3, 4, 0] rfl h
        · replace h := h.2 c19
          refine wp_aload_n 1 dX9_worth_82 rfl rfl ?_
          refine wp_getR dX9_worth_83 fl_RX9_36 rfl (sh8_K hS) (sh8_F_stack hS) ?_
          refine wp_iload_n 3 dX9_worth_86 rfl rfl ?_
          refine wp_iconst (v := 1) dX9_worth_87 rfl ?_
          refine wp_isub dX9_worth_88 ?_
          refine wp_aload_n 1 dX9_worth_89 rfl rfl ?_
          refine wp_getR dX9_worth_90 fl_RX9_36 rfl (sh8_K hS) (sh8_F_stack hS) ?_
          refine wp_iload_n 3 dX9_worth_93 rfl rfl ?_
          refine wp_iconst (v := 1) dX9_worth_94 rfl ?_
          refine wp_isub dX9_worth_95 ?_
          obtain ⟨j20, o21, o22, h⟩ := h
          refine wp_iald (n := 96) dX9_worth_96 (sh8_K_stack hS) (sh8_N_stack hS) (by decide) o21 o22 ?_
          have K24 : Wp G m_X9_worth (d + 1) 0 0 0 0 105 [(4, .int v8), (0, .ref a), (1, .int x1), (2, .int x2), (3, .int x3)] [.int (if (mI M (a + 19) j20) = 0 then 1 else 0), .int ((x2 - 1)), .ref (a + 19)] X M (fun X2 M2 v => X2 = X ∧ ∃ x, v = some (.int x) ∧ Q M2 x) := by
            refine wp_iast (n := 96) dX9_worth_105 (sh8_K_stack hS) (sh8_N_stack hS) (by decide) o21 o22 ?_
            refine wp_nm (fun M25 eM25 => ?_)
            replace h := h M25 eM25
            refine wp_goto (tgt := 145) dX9_worth_106 (by decide) ?_
            refine wp_iinc (v := x3 + 1) (lo2 := [(3, .int _), (4, .int _), (0, .ref _), (1, .int _), (2, .int _)]) dX9_worth_145 (q := 4) rfl rfl (by decide) rfl ?_
            refine wp_goto (tgt := 4) dX9_worth_148 (by decide) ?_
            exact Wp.sub [2, 3, 4, 0] rfl h
          refine wp_if_ne (tgt := 104) dX9_worth_97 (by decide) (fun c23 => ?_) (fun c23 => ?_)
          · refine wp_iconst (v := 0) dX9_worth_104 rfl ?_
            rw [if_neg c23] at K24
            exact K24
          · refine wp_iconst (v := 1) dX9_worth_100 rfl ?_
            refine wp_goto (tgt := 105) dX9_worth_101 (by decide) ?_
            rw [if_pos c23] at K24
            exact K24
    · replace h := h.2 c9
      refine wp_iload_n 3 dX9_worth_29 rfl rfl ?_
      refine wp_bipush (v := 96) dX9_worth_30 rfl ?_
      refine wp_icmp_ge (tgt := 145) dX9_worth_32 (by decide) (fun c26 => ?_) (fun c26 => ?_)
      · replace h := h.1 c26
        refine wp_iinc (v := x3 + 1) (lo2 := [(3, .int _), (4, .int _), (0, .ref _), (1, .int _), (2, .int _)]) dX9_worth_145 (q := 4) rfl rfl (by decide) rfl ?_
        refine wp_goto (tgt := 4) dX9_worth_148 (by decide) ?_
        exact Wp.sub [2, 3, 4, 0] rfl h
      · replace h := h.2 c26
        refine wp_aload_n 1 dX9_worth_35 rfl rfl ?_
        refine wp_getR dX9_worth_36 fl_RX9_36 rfl (sh8_K hS) (sh8_F_stack hS) ?_
        refine wp_iload_n 3 dX9_worth_39 rfl rfl ?_
        refine wp_iload 0 dX9_worth_40 rfl ?_
        refine wp_sipush (v := 10000) dX9_worth_42 rfl ?_
        refine wp_icmp_ge (tgt := 53) dX9_worth_45 (by decide) (fun c27 => ?_) (fun c27 => ?_)
        · replace h := h.1 c27
          refine wp_aload_n 1 dX9_worth_53 rfl rfl ?_
          refine wp_iload 0 dX9_worth_54 rfl ?_
          refine wp_sipush (v := 10000) dX9_worth_56 rfl ?_
          refine wp_isub dX9_worth_59 ?_
          obtain ⟨q28, o29, h⟩ := h
          refine wp_cvi dX9_worth_60 ck_RX9_58 (sh8_K hS) (as := [.int ((v8 - 10000))]) rfl rfl (Nat.le_of_ble_eq_true rfl) o29 (fun M30 r31 o32 => ?_)
          replace h := h M30 r31 o32
          obtain ⟨j33, o34, o35, h⟩ := h
          refine wp_iast (n := 96) dX9_worth_63 (sh8_K_stack hS) (sh8_N_stack hS) (by decide) o34 o35 ?_
          refine wp_nm (fun M36 eM36 => ?_)
          replace h := h M36 eM36
          refine wp_iinc (v := x2 + 1) (lo2 := [(2, .int _), (4, .int _), (0, .ref _), (1, .int _), (3, .int _)]) dX9_worth_64 (q := 3) rfl rfl (by decide) rfl ?_
          refine wp_goto (tgt := 145) dX9_worth_67 (by decide) ?_
          refine wp_iinc (v := x3 + 1) (lo2 := [(3, .int _), (2, .int _), (4, .int _), (0, .ref _), (1, .int _)]) dX9_worth_145 (q := 4) rfl rfl (by decide) rfl ?_
          refine wp_goto (tgt := 4) dX9_worth_148 (by decide) ?_
          exact Wp.sub [3, 4, 1, 0] rfl h
        · replace h := h.2 c27
          refine wp_iload 0 dX9_worth_48 rfl ?_
          refine wp_goto (tgt := 63) dX9_worth_50 (by decide) ?_
          obtain ⟨j37, o38, o39, h⟩ := h
          refine wp_iast (n := 96) dX9_worth_63 (sh8_K_stack hS) (sh8_N_stack hS) (by decide) o38 o39 ?_
          refine wp_nm (fun M40 eM40 => ?_)
          replace h := h M40 eM40
          refine wp_iinc (v := x2 + 1) (lo2 := [(2, .int _), (4, .int _), (0, .ref _), (1, .int _), (3, .int _)]) dX9_worth_64 (q := 3) rfl rfl (by decide) rfl ?_
          refine wp_goto (tgt := 145) dX9_worth_67 (by decide) ?_
          refine wp_iinc (v := x3 + 1) (lo2 := [(3, .int _), (2, .int _), (4, .int _), (0, .ref _), (1, .int _)]) dX9_worth_145 (q := 4) rfl rfl (by decide) rfl ?_
          refine wp_goto (tgt := 4) dX9_worth_148 (by decide) ?_
          exact Wp.sub [3, 4, 1, 0] rfl h
theorem cl_X9_worth (G : Gl) (d : Nat) {X : Sh} {a t n : Nat} {key : Int32} {σ env : Nat → Int32} {Q : Mm → Int32 → Prop} (hS : Sh8 X a) (ht : t < 12) (M0 : Mm) (hc : mI M0 (a + 17) t = nI n) (hn : σ (342 + 200 * t) = nI n) (h96 : n ≤ 96) (hd : dp_run σ (344 + 200 * t) n = some 1)
    (hok : ∀ k, k < n → st_ok key (σ (344 + 200 * t + 2 * k)) (σ (344 + 200 * t + 2 * k + 1))) (hcode : ∀ k, k < n → mI M0 (a + 5 + t) k = e_code (σ (344 + 200 * t + 2 * k)) (σ (344 + 200 * t + 2 * k + 1))) (henv : ∀ c, nm_ok key c → mI M0 (a + 18) (c - 97) = env c)
    (hq : ∀ M2, (∀ b, b ≠ a + 19 → mI M2 b = mI M0 b) → mR M2 = mR M0 → Q M2 (s_worth σ t env)) :
    ∀ (m k : Nat) (M : Mm), k + m = n → (∀ b, b ≠ a + 19 → mI M b = mI M0 b) → mR M = mR M0 → PileIs (mI M (a + 19)) (ev_run env σ (344 + 200 * t) k) →
      Wn G m_X9_worth (d + 1) 4 [(0, .ref a), (1, .int (nI t)), (2, .int (nI (ev_run env σ (344 + 200 * t) k).length)), (3, .int (nI k))] [] X M Q
  | 0, k, M, h, h1, h2, hp => by
    have hk : k = n := h
    subst hk
    have hlen := ev_len (env := env) hd
    refine bX9_worth_4 hS ⟨t, rfl, ht, fun _ => ?_, fun h => absurd (by rw [h1 _ (by omega), hc]; exact Int32.le_refl _) h⟩
    have e2 : mI M (a + 19) 0 = s_worth σ t env := by
      unfold s_worth
      rw [hn, nI_clamp (by omega)]
      match hl : ev_run env σ (344 + 200 * t) k, hlen with
      | [], hlen => simp at hlen
      | x :: s, hlen =>
        have hs : s = [] := List.length_eq_zero_iff.mp (by simpa using hlen)
        subst hs
        rw [hl] at hp
        exact pile_top hp
    rw [e2]
    exact hq M h1 h2
  | m + 1, k, M, h, h1, h2, hp => by
    obtain ⟨e, he⟩ := dp_prefix (n := m) (m := k + 1) (by rw [show k + 1 + m = n by omega]; exact hd)
    obtain ⟨e0, he0⟩ := dp_prefix (n := m + 1) (m := k) (by rw [h]; exact hd)
    have hle := dp_le he0
    have hlen := ev_len (env := env) he0
    have he2 : (dp_run σ (344 + 200 * t) k).bind (dp_step (σ (344 + 200 * t + 2 * k)) (σ (344 + 200 * t + 2 * k + 1))) = some e := he
    rw [he0, Option.bind_some] at he2
    have hstep : ev_run env σ (344 + 200 * t) (k + 1) = ev_step env (σ (344 + 200 * t + 2 * k)) (σ (344 + 200 * t + 2 * k + 1)) (ev_run env σ (344 + 200 * t) k) := rfl
    have key_ok := hok k (by omega)
    have go : ∀ M2, mR M2 = mR M → (∀ b, b ≠ a + 19 → mI M2 b = mI M b) → PileIs (mI M2 (a + 19)) (ev_run env σ (344 + 200 * t) (k + 1)) →
        Wn G m_X9_worth (d + 1) 4 [(0, .ref a), (1, .int (nI t)), (2, .int (nI (ev_run env σ (344 + 200 * t) (k + 1)).length)), (3, .int (nI k + 1))] [] X M2 Q := fun M2 g1 g2 g3 => by
      rw [nI_1]
      exact cl_X9_worth G d hS ht M0 hc hn h96 hd hok hcode henv hq m (k + 1) M2 (by omega) (fun b hb => (g2 b hb).trans (h1 b hb)) (g1.trans h2) g3
    generalize hL : ev_run env σ (344 + 200 * t) k = L at hp hlen hstep
    refine bX9_worth_4 hS ⟨t, rfl, ht, fun h3 => ?_, fun _ => ⟨k, rfl, by omega, ?_⟩⟩
    · rw [h1 _ (by omega), hc] at h3
      have := (nI_leI (by omega) (by omega)).mp h3
      omega
    intro v8 e8
    rw [h1 _ (by omega), hcode k (by omega)] at e8
    have off : ∀ (j : Nat) (x : Int32) (b : Nat), b ≠ a + 19 → mI (sI M (a + 19) j x) b = mI M b := fun j x b hb => by rw [mI_sI, up2_off _ _ _ hb]
    generalize σ (344 + 200 * t + 2 * k) = w at he2 hstep key_ok e8
    generalize σ (344 + 200 * t + 2 * k + 1) = v at he2 hstep key_ok e8
    have h96' : ¬ (96 : Int32) ≤ nI L.length := fun q => by
      have := (nI_leI (a := 96) (by omega) (by omega)).mp q
      omega
    rcases key_ok with ⟨rfl, c, hc9, rfl⟩ | ⟨rfl, c, hcn, rfl⟩ | ⟨rfl, c, hcm, rfl⟩
    · have e8 : v8 = nI c := e8
      subst e8
      refine ⟨fun h => absurd h (nI_pos (by omega)), fun _ => ⟨fun h => absurd h h96', fun _ => ⟨fun h => ?_, fun _ => ⟨L.length, rfl, by omega, ?_⟩⟩⟩⟩
      · have := (nI_leI (a := 10000) (by omega) (by omega)).mp h
        omega
      · intro M40 e40
        have hstep : _ = nI c :: L := hstep
        have hg := go M40 (by rw [e40]; rfl) (fun b hb => by rw [e40]; exact off _ _ b hb) (by rw [hstep, e40, mI_sI, up2_row]; exact pile_push hp)
        rw [hstep] at hg
        rw [nI_1]
        exact hg
    · have hca := nm_any hcn
      have e8 : v8 = nI (10000 + (c - 97)) := by
        rw [e8]
        show nI 10000 + (nI c - nI 97) = _
        rw [nI_subI _ _ hca.1, nI_add]
      subst e8
      refine ⟨fun h => absurd h (nI_pos (by omega)), fun _ => ⟨fun h => absurd h h96', fun _ => ⟨fun _ => ?_, fun h => ?_⟩⟩⟩
      · have e9 : nI (10000 + (c - 97)) - 10000 = nI (c - 97) := by
          rw [n_lit 10000, nI_subI _ _ (by omega)]
          exact congrArg nI (by omega)
        rw [e9]
        refine ⟨_, cp_X9_valueOf G d X M a (c - 97) hS (by omega), ?_⟩
        rintro M30 r31 ⟨q, q2⟩
        have q := q.symm
        subst q
        refine ⟨L.length, rfl, by omega, ?_⟩
        intro M36 e36
        rw [q2, h1 _ (by omega), henv c hcn] at e36
        have hstep : _ = env (nI c).toNatClampNeg :: L := hstep
        rw [nI_clamp (by omega)] at hstep
        have hg := go M36 (by rw [e36]; rfl) (fun b hb => by rw [e36]; exact off _ _ b hb) (by rw [hstep, e36, mI_sI, up2_row]; exact pile_push hp)
        rw [hstep] at hg
        rw [nI_1]
        exact hg
      · exact absurd ((nI_leI (a := 10000) (by omega) (by omega)).mpr (by omega)) h
    · have e8 : v8 = -(nI c) := e8
      simp only [dp_step, if_true] at he2
      simp only [ev_step, if_true] at hstep
      by_cases h33 : c = 33
      · subst h33
        have e8 : v8 = -33 := e8
        subst e8
        rw [if_pos (show nI 33 = 33 from rfl)] at he2 hstep
        refine ⟨fun _ => ⟨fun h => absurd rfl h, fun _ => ⟨fun h => ?_, fun _ => ?_⟩⟩, fun h => absurd (by decide) h⟩
        · split at he2
          · have := (nI_ltI (b := 1) (by omega) (by omega)).mp h
            omega
          · cases he2
        · split at he2
          · match L, hlen, hp, hstep with
            | [], hlen, _, _ => simp at hlen; omega
            | x :: s, hlen, hp, hstep =>
              refine ⟨s.length, nI_pred _, by simp at hlen; omega, ?_⟩
              intro M25 e25
              rw [pile_top hp] at e25
              have hg := go M25 (by rw [e25]; rfl) (fun b hb => by rw [e25]; exact off _ _ b hb) (by rw [hstep, e25, mI_sI, up2_row]; exact pile_push (pile_tail hp))
              rw [hstep] at hg
              exact hg
          · cases he2
      · have hm : c ∈ [38, 42, 43, 45, 47, 60, 61, 62, 124] := by
          simp only [List.mem_cons, List.not_mem_nil, or_false] at hcm ⊢
          omega
        have hc200 : c ≤ 124 ∧ 1 ≤ c := by
          simp only [List.mem_cons, List.not_mem_nil, or_false] at hcm
          omega
        have hne : ¬ nI c = 33 := fun q => h33 ((nI_inj (b := 33) (by omega) (by omega)).mp q)
        rw [if_neg hne] at he2 hstep
        have e9 : v8 < 0 ∧ ¬ v8 = -33 ∧ -v8 = nI c := by
          subst e8
          refine ⟨?_, fun q => ?_, Int32.neg_neg⟩
          · rw [fa_lt, Int32.toInt_neg, nI_toInt (by omega), Int.bmod_def]
            show _ < (0 : Int)
            omega
          · have q2 := congrArg Int32.toInt q
            rw [Int32.toInt_neg, nI_toInt (by omega), Int.bmod_def] at q2
            have q3 : (-33 : Int32).toInt = -33 := rfl
            rw [q3] at q2
            omega
        refine ⟨fun _ => ⟨fun _ => ⟨fun h => ?_, fun _ => ?_⟩, fun h => absurd h e9.2.1⟩, fun h => absurd e9.1 h⟩
        · split at he2
          · have := (nI_ltI (b := 2) (by omega) (by omega)).mp h
            omega
          · cases he2
        · split at he2
          · match L, hlen, hp, hstep with
            | [], hlen, _, _ => simp at hlen; omega
            | [x], hlen, _, _ => simp at hlen; omega
            | y :: x :: s, hlen, hp, hstep =>
              refine ⟨s.length, ?_, by simp at hlen; omega, s.length + 1, ?_, by simp at hlen; omega, ?_⟩
              · show nI (s.length + 1 + 1) + (-1) - 1 = _
                rw [pk_m1, nI_pred]
              · exact pk_m1 _
              · intro M18 e18
                have hx := pile_top (pile_tail hp)
                have hy := pile_top hp
                have hy' : mI M (a + 19) (s.length + 1) = y := hy
                rw [hx, hy', e9.2.2, join_eq hm] at e18
                have hg := go M18 (by rw [e18]; rfl) (fun b hb => by rw [e18]; exact off _ _ b hb) (by rw [hstep, e18, mI_sI, up2_row]; exact pile_push (pile_tail (pile_tail hp)))
                rw [hstep] at hg
                have e5 : nI (y :: x :: s).length + (-1) = nI (g_join (nI c) x y :: s).length := pk_m1 _
                rw [e5]
                exact hg
          · cases he2
theorem cp_X9_worth (G : Gl) (d : Nat) (hd : 1 ≤ d) (X : Sh) (M : Mm) (a t : Nat) (σ env : Nat → Int32) (hS : Sh8 X a) (ht : t < 12) (hT : TXt M a σ t) (henv : ∀ c, nm_ok (σ (340 + 200 * t)) c → mI M (a + 18) (c - 97) = env c) : Cn G m_X9_worth d [.ref a, .int (nI t)] X M (fun M2 x => x = s_worth σ t env ∧ (∀ b, b ≠ a + 19 → mI M2 b = mI M b) ∧ mR M2 = mR M) := by
  obtain ⟨d, rfl⟩ : ∃ d1, d = d1 + 1 := ⟨d - 1, by omega⟩
  obtain ⟨_, _, h17, ⟨n, hn, h1, h2, h3, h4⟩, hcode⟩ := hT
  refine Cn.of (by decide) (Nat.le_of_ble_eq_true rfl) (bX9_worth_0 hS ?_)
  exact cl_X9_worth G d hS ht M (h17.trans hn) hn h2 h3 h4 (fun k hk => hcode k (by rw [hn]; exact (nI_ltI (by omega) (by omega)).mpr hk) (by omega)) henv (fun M2 g1 g2 => ⟨rfl, g1, g2⟩) n 0 M (by omega) (fun _ _ => rfl) rfl (fun i hi => absurd hi (by simp [ev_run]))
