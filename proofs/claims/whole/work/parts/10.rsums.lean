/-! sums, tops, resistances, parts, as the reference works them out of its flat row -/
def s_sum (f : Nat → Int32) (z : Int32) : Nat → Int32
  | 0 => z
  | n + 1 => s_sum f z n + f n
theorem s_sum_cong {f g : Nat → Int32} {z : Int32} {n : Nat} (h : ∀ k, k < n → f k = g k) : s_sum f z n = s_sum g z n := by
  induction n with
  | zero => rfl
  | succ n ih =>
    show s_sum f z n + f n = s_sum g z n + g n
    rw [ih (fun k hk => h k (by omega)), h n (by omega)]
def s_bulkIn (σ : Nat → Int32) (r nl : Nat) : Int32 := s_sum (fun l => σ (65 + 10 * l + r)) 0 nl
def s_top (σ : Nat → Int32) (nl r : Nat) : Int32 := s_bulkIn σ r nl * 100 / areaV r
def s_great (t : Nat → Int32) : Nat → Int32
  | 0 => 0
  | n + 1 => if s_great t n < t n then t n else s_great t n
def s_allBulk (σ : Nat → Int32) (nl : Nat) : Int32 := s_sum (fun r => s_bulkIn σ r nl) 0 5
def s_res (σ : Nat → Int32) (nl r : Nat) : Int32 := s_sum (fun l => σ (65 + 10 * l + r) * f_holds (σ (20 + 5 * (σ (60 + 10 * l)).toNatClampNeg))) 1 nl
def s_bulkOf (σ : Nat → Int32) (l : Nat) : Int32 := s_sum (fun r => σ (65 + 10 * l + r)) 0 5
def s_counts (σ : Nat → Int32) (key : Int32) : Nat → Int32
  | 0 => -1
  | n + 1 => if σ (340 + 200 * n) = key then nI n else s_counts σ key n
theorem n_lit (n : Nat) : (OfNat.ofNat n : Int32) = nI n := rfl
/-- a number within two ends is a Nat's -/
theorem ix_of {x : Int32} {nb : Nat} (hb : nb < 2147483648) (h1 : 0 ≤ x) (h2 : x < nI nb) : ∃ i : Nat, i < nb ∧ x = nI i := by
  obtain ⟨j, hj, rfl⟩ := nI_of (i_nlt.mpr h1)
  exact ⟨j, (nI_ltI (by omega) (by omega)).mp h2, rfl⟩
theorem ix_le {x : Int32} {nb : Nat} (hb : nb < 2147483648) (h1 : 0 ≤ x) (h2 : x ≤ nI nb) : ∃ i : Nat, i ≤ nb ∧ x = nI i := by
  obtain ⟨j, hj, rfl⟩ := nI_of (i_nlt.mpr h1)
  exact ⟨j, (nI_leI (by omega) (by omega)).mp h2, rfl⟩
theorem ix_pred {x : Int32} {nb : Nat} (hb : nb < 2147483648) (h1 : 0 ≤ x) (h2 : x ≤ nI nb - 1) : ∃ i : Nat, i < nb ∧ x = nI i := by
  obtain ⟨j, hj, rfl⟩ := nI_of (i_nlt.mpr h1)
  rcases Nat.eq_zero_or_pos nb with h0 | h0
  · subst h0
    have h3 : (nI j).toInt ≤ (nI 0 - 1).toInt := (fa_le _ _).mp h2
    rw [nI_toInt (by omega)] at h3
    have h4 : (nI 0 - 1).toInt = -1 := rfl
    omega
  · obtain ⟨k, rfl⟩ : ∃ k, nb = k + 1 := ⟨nb - 1, by omega⟩
    rw [nI_pred] at h2
    have := (nI_leI (by omega) (by omega)).mp h2
    exact ⟨j, by omega, rfl⟩
theorem ix_pred_iff {x : Int32} {nb : Nat} (hb : nb < 2147483648) : (0 ≤ x ∧ x ≤ nI nb - 1) ↔ (0 ≤ x ∧ x < nI nb) := by
  constructor
  · rintro ⟨h1, h2⟩
    obtain ⟨i, hi, rfl⟩ := ix_pred hb h1 h2
    exact ⟨h1, nI_lt hi (by omega)⟩
  · rintro ⟨h1, h2⟩
    obtain ⟨i, hi, rfl⟩ := ix_of hb h1 h2
    obtain ⟨k, rfl⟩ : ∃ k, nb = k + 1 := ⟨nb - 1, by omega⟩
    rw [nI_pred]
    exact ⟨h1, nI_le (by omega) (by omega)⟩
/-! the reference: sums, tops, resistances, parts -/
theorem bX11_bulkIn_0 {G : Gl} {d : Nat} {X : Sh} {M : Mm} {Q : Mm → Int32 → Prop} {a : Nat} {x1 : Int32} (hS : Sh10 X a) (h : Wn G m_X11_bulkIn (d + 1) 4 [(0, .ref a), (1, .int x1), (2, .int 0), (3, .int 0)] [] X M Q) : Wn G m_X11_bulkIn (d + 1) 0 [(0, .ref a), (1, .int x1)] [] X M Q := by
  refine wp_iconst (v := 0) dX11_bulkIn_0 rfl ?_
  refine wp_istore_n (lo2 := [(2, .int _), (0, .ref _), (1, .int _)]) dX11_bulkIn_1 rfl (by decide) rfl ?_
  refine wp_iconst (v := 0) dX11_bulkIn_2 rfl ?_
  refine wp_istore_n (lo2 := [(3, .int _), (2, .int _), (0, .ref _), (1, .int _)]) dX11_bulkIn_3 rfl (by decide) rfl ?_
  exact Wp.sub [2, 3, 1, 0] rfl h
theorem bX11_bulkIn_4 {G : Gl} {d : Nat} {X : Sh} {M : Mm} {Q : Mm → Int32 → Prop} {a : Nat} {x1 : Int32} {x2 : Int32} {x3 : Int32} (hS : Sh10 X a) (h : (((mI M (a + 1) 1) ≤ x3 → Q M x2) ∧ (¬ ((mI M (a + 1) 1) ≤ x3) → (∃ j2 : Nat, (((60 + 10 * x3) + 5) + x1) = nI j2 ∧ j2 < 2950 ∧ (∀ v5 : Int32, v5 = (x2 + (mI M (a + 1) j2)) → Wn G m_X11_bulkIn (d + 1) 4 [(0, .ref a), (1, .int x1), (2, .int v5), (3, .int (x3 + 1))] [] X M Q))))) : Wn G m_X11_bulkIn (d + 1) 4 [(0, .ref a), (1, .int x1), (2, .int x2), (3, .int x3)] [] X M Q := by
  refine wp_iload_n 3 dX11_bulkIn_4 rfl rfl ?_
  refine wp_aload_n 0 dX11_bulkIn_5 rfl rfl ?_
  refine wp_getR dX11_bulkIn_6 fl_RX11_7 rfl (sh10_K hS) (sh10_F_s hS) ?_
  refine wp_iconst (v := 1) dX11_bulkIn_9 rfl ?_
  refine wp_iald (n := 2950) dX11_bulkIn_10 (sh10_K_s hS) (sh10_N_s hS) (by decide) rfl (by decide) ?_
  refine wp_icmp_ge (tgt := 37) dX11_bulkIn_11 (by decide) (fun c1 => ?_) (fun c1 => ?_)
  · replace h := h.1 c1
    refine wp_iload_n 2 dX11_bulkIn_37 rfl rfl ?_
    exact wn_iret dX11_bulkIn_38 rfl h
  · replace h := h.2 c1
    refine wp_iload_n 2 dX11_bulkIn_14 rfl rfl ?_
    refine wp_aload_n 0 dX11_bulkIn_15 rfl rfl ?_
    refine wp_getR dX11_bulkIn_16 fl_RX11_7 rfl (sh10_K hS) (sh10_F_s hS) ?_
    refine wp_aload_n 0 dX11_bulkIn_19 rfl rfl ?_
    refine wp_iload_n 3 dX11_bulkIn_20 rfl rfl ?_
    refine wp_cvip dX11_bulkIn_21 ck_RX11_134 (sh10_K hS) (as := [.int x3]) rfl rfl (Nat.le_of_ble_eq_true rfl) (cp_X11_layerAt G d X M a x3 hS) ?_
    refine wp_iconst (v := 5) dX11_bulkIn_24 rfl ?_
    refine wp_iadd dX11_bulkIn_25 ?_
    refine wp_iload_n 1 dX11_bulkIn_26 rfl rfl ?_
    refine wp_iadd dX11_bulkIn_27 ?_
    obtain ⟨j2, o3, o4, h⟩ := h
    refine wp_iald (n := 2950) dX11_bulkIn_28 (sh10_K_s hS) (sh10_N_s hS) (by decide) o3 o4 ?_
    refine wp_iadd dX11_bulkIn_29 ?_
    refine wp_topi (fun v5 ev5 => ?_)
    replace h := h v5 ev5
    refine wp_istore_n (lo2 := [(2, .int _), (0, .ref _), (1, .int _), (3, .int _)]) dX11_bulkIn_30 rfl (by decide) rfl ?_
    refine wp_iinc (v := x3 + 1) (lo2 := [(3, .int _), (2, .int _), (0, .ref _), (1, .int _)]) dX11_bulkIn_31 (q := 3) rfl rfl (by decide) rfl ?_
    refine wp_goto (tgt := 4) dX11_bulkIn_34 (by decide) ?_
    exact Wp.sub [2, 3, 1, 0] rfl h
theorem cl_X11_bulkIn (G : Gl) (d : Nat) {X : Sh} {M : Mm} {a r nl : Nat} {Q : Mm → Int32 → Prop} (hS : Sh10 X a) (hr : r < 5) (hn : mI M (a + 1) 1 = nI nl) (hnl : nl ≤ 24) (hq : Q M (s_bulkIn (mI M (a + 1)) r nl)) :
    ∀ n i : Nat, i + n = nl → Wn G m_X11_bulkIn (d + 1) 4 [(0, .ref a), (1, .int (nI r)), (2, .int (s_bulkIn (mI M (a + 1)) r i)), (3, .int (nI i))] [] X M Q
  | 0, i, h => by
    have hi : i = nl := h
    subst hi
    refine bX11_bulkIn_4 hS ⟨fun _ => hq, fun h => absurd (by rw [hn]; exact Int32.le_refl _) h⟩
  | n + 1, i, h => by
    refine bX11_bulkIn_4 hS ⟨fun h2 => ?_, fun _ => ⟨65 + 10 * i + r, (by first | rfl | (simp only [n_lit, nI_add, pk_mul]; done) | (simp only [n_lit, nI_add, pk_mul]; exact congrArg nI (by omega))), by omega, ?_⟩⟩
    · rw [hn] at h2
      have := (nI_leI (by omega) (by omega)).mp h2
      omega
    · rintro v rfl
      rw [nI_1]
      exact cl_X11_bulkIn G d hS hr hn hnl hq n (i + 1) (by omega)
theorem cp_X11_bulkIn (G : Gl) (d : Nat) (hd : 1 ≤ d) (X : Sh) (M : Mm) (a r nl : Nat) (hS : Sh10 X a) (hr : r < 5) (hn : mI M (a + 1) 1 = nI nl) (hnl : nl ≤ 24) : Cn G m_X11_bulkIn d [.ref a, .int (nI r)] X M (fun M2 x => M2 = M ∧ x = s_bulkIn (mI M (a + 1)) r nl) := by
  obtain ⟨d, rfl⟩ : ∃ d1, d = d1 + 1 := ⟨d - 1, by omega⟩
  refine Cn.of (by decide) (Nat.le_of_ble_eq_true rfl) (bX11_bulkIn_0 hS ?_)
  exact cl_X11_bulkIn G d hS hr hn hnl ⟨rfl, rfl⟩ nl 0 (by omega)
theorem bX11_topOf_0 {G : Gl} {d : Nat} {X : Sh} {M : Mm} {Q : Mm → Int32 → Prop} {a : Nat} {x1 : Int32} (hS : Sh10 X a) (h : (∃ q1 : Mm → Int32 → Prop, Cn G m_X11_bulkIn d [.ref a, .int x1] X M q1 ∧ ∀ M3 r4, q1 M3 r4 → (¬ ((2 * x1 + 1) = 0) ∧ Q M3 ((r4 * 100) / (2 * x1 + 1))))) : Wn G m_X11_topOf (d + 1) 0 [(0, .ref a), (1, .int x1)] [] X M Q := by
  refine wp_aload_n 0 dX11_topOf_0 rfl rfl ?_
  refine wp_iload_n 1 dX11_topOf_1 rfl rfl ?_
  obtain ⟨q1, o2, h⟩ := h
  refine wp_cvi dX11_topOf_2 ck_RX11_137 (sh10_K hS) (as := [.int x1]) rfl rfl (Nat.le_of_ble_eq_true rfl) o2 (fun M3 r4 o5 => ?_)
  replace h := h M3 r4 o5
  refine wp_bipush (v := 100) dX11_topOf_5 rfl ?_
  refine wp_imul dX11_topOf_7 ?_
  refine wp_iload_n 1 dX11_topOf_8 rfl rfl ?_
  refine wp_csip dX11_topOf_9 ck_RX11_140 rfl (as := [.int x1]) rfl rfl (Nat.le_of_ble_eq_true rfl) (cp_X11_areaOf G d X M3 x1) ?_
  obtain ⟨o6, h⟩ := h
  refine wp_idiv dX11_topOf_12 o6 ?_
  exact wn_iret dX11_topOf_13 rfl h
theorem cp_X11_topOf (G : Gl) (d : Nat) (hd : 2 ≤ d) (X : Sh) (M : Mm) (a r nl : Nat) (hS : Sh10 X a) (hr : r < 5) (hn : mI M (a + 1) 1 = nI nl) (hnl : nl ≤ 24) : Cn G m_X11_topOf d [.ref a, .int (nI r)] X M (fun M2 x => M2 = M ∧ x = s_top (mI M (a + 1)) nl r) := by
  obtain ⟨d, rfl⟩ : ∃ d1, d = d1 + 1 := ⟨d - 1, by omega⟩
  refine Cn.of (by decide) (Nat.le_of_ble_eq_true rfl) (bX11_topOf_0 hS ⟨_, cp_X11_bulkIn G d (by omega) X M a r nl hS hr hn hnl, ?_⟩)
  rintro M _ ⟨rfl, rfl⟩
  have ha : 2 * nI r + 1 = areaV r ∧ ¬ (2 * nI r + 1 = 0) := by
    match r, hr with
    | 0, _ => exact ⟨rfl, by decide⟩
    | 1, _ => exact ⟨rfl, by decide⟩
    | 2, _ => exact ⟨rfl, by decide⟩
    | 3, _ => exact ⟨rfl, by decide⟩
    | 4, _ => exact ⟨rfl, by decide⟩
  refine ⟨ha.2, rfl, ?_⟩
  rw [ha.1]
  rfl
theorem bX11_greatestTop_0 {G : Gl} {d : Nat} {X : Sh} {M : Mm} {Q : Mm → Int32 → Prop} {a : Nat} (hS : Sh10 X a) (h : Wn G m_X11_greatestTop (d + 1) 4 [(0, .ref a), (1, .int 0), (2, .int 0)] [] X M Q) : Wn G m_X11_greatestTop (d + 1) 0 [(0, .ref a)] [] X M Q := by
  refine wp_iconst (v := 0) dX11_greatestTop_0 rfl ?_
  refine wp_istore_n (lo2 := [(1, .int _), (0, .ref _)]) dX11_greatestTop_1 rfl (by decide) rfl ?_
  refine wp_iconst (v := 0) dX11_greatestTop_2 rfl ?_
  refine wp_istore_n (lo2 := [(2, .int _), (1, .int _), (0, .ref _)]) dX11_greatestTop_3 rfl (by decide) rfl ?_
  exact Wp.sub [2, 1, 0] rfl h
theorem bX11_greatestTop_4 {G : Gl} {d : Nat} {X : Sh} {M : Mm} {Q : Mm → Int32 → Prop} {a : Nat} {x1 : Int32} {x2 : Int32} (hS : Sh10 X a) (h : ((5 ≤ x2 → Q M x1) ∧ (¬ (5 ≤ x2) → (∃ q2 : Mm → Int32 → Prop, Cn G m_X11_topOf d [.ref a, .int x2] X M q2 ∧ ∀ M4 r5, q2 M4 r5 → ((r5 ≤ x1 → Wn G m_X11_greatestTop (d + 1) 4 [(0, .ref a), (1, .int x1), (2, .int (x2 + 1))] [] X M4 Q) ∧ (¬ (r5 ≤ x1) → (∃ q8 : Mm → Int32 → Prop, Cn G m_X11_topOf d [.ref a, .int x2] X M4 q8 ∧ ∀ M10 r11, q8 M10 r11 → Wn G m_X11_greatestTop (d + 1) 4 [(0, .ref a), (1, .int r11), (2, .int (x2 + 1))] [] X M10 Q))))))) : Wn G m_X11_greatestTop (d + 1) 4 [(0, .ref a), (1, .int x1), (2, .int x2)] [] X M Q := by
  refine wp_iload_n 2 dX11_greatestTop_4 rfl rfl ?_
  refine wp_iconst (v := 5) dX11_greatestTop_5 rfl ?_
  refine wp_icmp_ge (tgt := 34) dX11_greatestTop_6 (by decide) (fun c1 => ?_) (fun c1 => ?_)
  · replace h := h.1 c1
    refine wp_iload_n 1 dX11_greatestTop_34 rfl rfl ?_
    exact wn_iret dX11_greatestTop_35 rfl h
  · replace h := h.2 c1
    refine wp_aload_n 0 dX11_greatestTop_9 rfl rfl ?_
    refine wp_iload_n 2 dX11_greatestTop_10 rfl rfl ?_
    obtain ⟨q2, o3, h⟩ := h
    refine wp_cvi dX11_greatestTop_11 ck_RX11_143 (sh10_K hS) (as := [.int x2]) rfl rfl (Nat.le_of_ble_eq_true rfl) o3 (fun M4 r5 o6 => ?_)
    replace h := h M4 r5 o6
    refine wp_iload_n 1 dX11_greatestTop_14 rfl rfl ?_
    refine wp_icmp_le (tgt := 26) dX11_greatestTop_15 (by decide) (fun c7 => ?_) (fun c7 => ?_)
    · replace h := h.1 c7
      refine wp_iload_n 1 dX11_greatestTop_26 rfl rfl ?_
      refine wp_istore_n (lo2 := [(1, .int _), (0, .ref _), (2, .int _)]) dX11_greatestTop_27 rfl (by decide) rfl ?_
      refine wp_iinc (v := x2 + 1) (lo2 := [(2, .int _), (1, .int _), (0, .ref _)]) dX11_greatestTop_28 (q := 2) rfl rfl (by decide) rfl ?_
      refine wp_goto (tgt := 4) dX11_greatestTop_31 (by decide) ?_
      exact Wp.sub [2, 1, 0] rfl h
    · replace h := h.2 c7
      refine wp_aload_n 0 dX11_greatestTop_18 rfl rfl ?_
      refine wp_iload_n 2 dX11_greatestTop_19 rfl rfl ?_
      obtain ⟨q8, o9, h⟩ := h
      refine wp_cvi dX11_greatestTop_20 ck_RX11_143 (sh10_K hS) (as := [.int x2]) rfl rfl (Nat.le_of_ble_eq_true rfl) o9 (fun M10 r11 o12 => ?_)
      replace h := h M10 r11 o12
      refine wp_goto (tgt := 27) dX11_greatestTop_23 (by decide) ?_
      refine wp_istore_n (lo2 := [(1, .int _), (0, .ref _), (2, .int _)]) dX11_greatestTop_27 rfl (by decide) rfl ?_
      refine wp_iinc (v := x2 + 1) (lo2 := [(2, .int _), (1, .int _), (0, .ref _)]) dX11_greatestTop_28 (q := 2) rfl rfl (by decide) rfl ?_
      refine wp_goto (tgt := 4) dX11_greatestTop_31 (by decide) ?_
      exact Wp.sub [2, 1, 0] rfl h
theorem cl_X11_greatestTop (G : Gl) (d : Nat) (hd : 2 ≤ d) {X : Sh} {M : Mm} {a nl : Nat} {Q : Mm → Int32 → Prop} (hS : Sh10 X a) (hn : mI M (a + 1) 1 = nI nl) (hnl : nl ≤ 24) (hq : Q M (s_great (s_top (mI M (a + 1)) nl) 5)) :
    ∀ n i : Nat, i + n = 5 → Wn G m_X11_greatestTop (d + 1) 4 [(0, .ref a), (1, .int (s_great (s_top (mI M (a + 1)) nl) i)), (2, .int (nI i))] [] X M Q
  | 0, i, h => by
    have hi : i = 5 := h
    subst hi
    exact bX11_greatestTop_4 hS ⟨fun _ => hq, fun h => absurd (by decide) h⟩
  | n + 1, i, h => by
    have hi : ¬ (5 : Int32) ≤ nI i := fun q => by
      have := (nI_leI (a := 5) (by omega) (by omega)).mp q
      omega
    have ih := cl_X11_greatestTop G d hd hS hn hnl hq n (i + 1) (by omega)
    refine bX11_greatestTop_4 hS ⟨fun h2 => absurd h2 hi, fun _ => ⟨_, cp_X11_topOf G d hd X M a i nl hS (by omega) hn hnl, ?_⟩⟩
    rintro M2 _ ⟨e, rfl⟩
    have e := e.symm
    subst e
    rw [nI_1]
    refine ⟨fun h2 => ?_, fun h2 => ⟨_, cp_X11_topOf G d hd X M a i nl hS (by omega) hn hnl, ?_⟩⟩
    · have e2 : s_great (s_top (mI M (a + 1)) nl) (i + 1) = s_great (s_top (mI M (a + 1)) nl) i := if_neg (i_nlt.mpr h2)
      rw [e2] at ih
      exact ih
    · rintro M2 _ ⟨e, rfl⟩
      have e := e.symm
      subst e
      have e2 : s_great (s_top (mI M (a + 1)) nl) (i + 1) = s_top (mI M (a + 1)) nl i := if_pos (i_nle.mp h2)
      rw [e2] at ih
      exact ih
theorem cp_X11_greatestTop (G : Gl) (d : Nat) (hd : 3 ≤ d) (X : Sh) (M : Mm) (a nl : Nat) (hS : Sh10 X a) (hn : mI M (a + 1) 1 = nI nl) (hnl : nl ≤ 24) : Cn G m_X11_greatestTop d [.ref a] X M (fun M2 x => M2 = M ∧ x = s_great (s_top (mI M (a + 1)) nl) 5) := by
  obtain ⟨d, rfl⟩ : ∃ d1, d = d1 + 1 := ⟨d - 1, by omega⟩
  refine Cn.of (by decide) (Nat.le_of_ble_eq_true rfl) (bX11_greatestTop_0 hS ?_)
  exact cl_X11_greatestTop G d (by omega) hS hn hnl ⟨rfl, rfl⟩ 5 0 (by omega)
theorem bX11_allBulk_0 {G : Gl} {d : Nat} {X : Sh} {M : Mm} {Q : Mm → Int32 → Prop} {a : Nat} (hS : Sh10 X a) (h : Wn G m_X11_allBulk (d + 1) 4 [(0, .ref a), (1, .int 0), (2, .int 0)] [] X M Q) : Wn G m_X11_allBulk (d + 1) 0 [(0, .ref a)] [] X M Q := by
  refine wp_iconst (v := 0) dX11_allBulk_0 rfl ?_
  refine wp_istore_n (lo2 := [(1, .int _), (0, .ref _)]) dX11_allBulk_1 rfl (by decide) rfl ?_
  refine wp_iconst (v := 0) dX11_allBulk_2 rfl ?_
  refine wp_istore_n (lo2 := [(2, .int _), (1, .int _), (0, .ref _)]) dX11_allBulk_3 rfl (by decide) rfl ?_
  exact Wp.sub [2, 1, 0] rfl h
theorem bX11_allBulk_4 {G : Gl} {d : Nat} {X : Sh} {M : Mm} {Q : Mm → Int32 → Prop} {a : Nat} {x1 : Int32} {x2 : Int32} (hS : Sh10 X a) (h : ((5 ≤ x2 → Q M x1) ∧ (¬ (5 ≤ x2) → (∃ q2 : Mm → Int32 → Prop, Cn G m_X11_bulkIn d [.ref a, .int x2] X M q2 ∧ ∀ M4 r5, q2 M4 r5 → (∀ v7 : Int32, v7 = (x1 + r5) → Wn G m_X11_allBulk (d + 1) 4 [(0, .ref a), (1, .int v7), (2, .int (x2 + 1))] [] X M4 Q))))) : Wn G m_X11_allBulk (d + 1) 4 [(0, .ref a), (1, .int x1), (2, .int x2)] [] X M Q := by
  refine wp_iload_n 2 dX11_allBulk_4 rfl rfl ?_
  refine wp_iconst (v := 5) dX11_allBulk_5 rfl ?_
  refine wp_icmp_ge (tgt := 23) dX11_allBulk_6 (by decide) (fun c1 => ?_) (fun c1 => ?_)
  · replace h := h.1 c1
    refine wp_iload_n 1 dX11_allBulk_23 rfl rfl ?_
    exact wn_iret dX11_allBulk_24 rfl h
  · replace h := h.2 c1
    refine wp_iload_n 1 dX11_allBulk_9 rfl rfl ?_
    refine wp_aload_n 0 dX11_allBulk_10 rfl rfl ?_
    refine wp_iload_n 2 dX11_allBulk_11 rfl rfl ?_
    obtain ⟨q2, o3, h⟩ := h
    refine wp_cvi dX11_allBulk_12 ck_RX11_137 (sh10_K hS) (as := [.int x2]) rfl rfl (Nat.le_of_ble_eq_true rfl) o3 (fun M4 r5 o6 => ?_)
    replace h := h M4 r5 o6
    refine wp_iadd dX11_allBulk_15 ?_
    refine wp_topi (fun v7 ev7 => ?_)
    replace h := h v7 ev7
    refine wp_istore_n (lo2 := [(1, .int _), (0, .ref _), (2, .int _)]) dX11_allBulk_16 rfl (by decide) rfl ?_
    refine wp_iinc (v := x2 + 1) (lo2 := [(2, .int _), (1, .int _), (0, .ref _)]) dX11_allBulk_17 (q := 2) rfl rfl (by decide) rfl ?_
    refine wp_goto (tgt := 4) dX11_allBulk_20 (by decide) ?_
    exact Wp.sub [2, 1, 0] rfl h
theorem cl_X11_allBulk (G : Gl) (d : Nat) (hd : 1 ≤ d) {X : Sh} {M : Mm} {a nl : Nat} {Q : Mm → Int32 → Prop} (hS : Sh10 X a) (hn : mI M (a + 1) 1 = nI nl) (hnl : nl ≤ 24) (hq : Q M (s_allBulk (mI M (a + 1)) nl)) :
    ∀ n i : Nat, i + n = 5 → Wn G m_X11_allBulk (d + 1) 4 [(0, .ref a), (1, .int (s_sum (fun r => s_bulkIn (mI M (a + 1)) r nl) 0 i)), (2, .int (nI i))] [] X M Q
  | 0, i, h => by
    have hi : i = 5 := h
    subst hi
    exact bX11_allBulk_4 hS ⟨fun _ => hq, fun h => absurd (by decide) h⟩
  | n + 1, i, h => by
    have hi : ¬ (5 : Int32) ≤ nI i := fun q => by
      have := (nI_leI (a := 5) (by omega) (by omega)).mp q
      omega
    refine bX11_allBulk_4 hS ⟨fun h2 => absurd h2 hi, fun _ => ⟨_, cp_X11_bulkIn G d hd X M a i nl hS (by omega) hn hnl, ?_⟩⟩
    rintro M2 _ ⟨e, rfl⟩
    have e := e.symm
    subst e
    rintro v rfl
    rw [nI_1]
    exact cl_X11_allBulk G d hd hS hn hnl hq n (i + 1) (by omega)
theorem cp_X11_allBulk (G : Gl) (d : Nat) (hd : 2 ≤ d) (X : Sh) (M : Mm) (a nl : Nat) (hS : Sh10 X a) (hn : mI M (a + 1) 1 = nI nl) (hnl : nl ≤ 24) : Cn G m_X11_allBulk d [.ref a] X M (fun M2 x => M2 = M ∧ x = s_allBulk (mI M (a + 1)) nl) := by
  obtain ⟨d, rfl⟩ : ∃ d1, d = d1 + 1 := ⟨d - 1, by omega⟩
  refine Cn.of (by decide) (Nat.le_of_ble_eq_true rfl) (bX11_allBulk_0 hS ?_)
  exact cl_X11_allBulk G d (by omega) hS hn hnl ⟨rfl, rfl⟩ 5 0 (by omega)
theorem bX11_resistance_0 {G : Gl} {d : Nat} {X : Sh} {M : Mm} {Q : Mm → Int32 → Prop} {a : Nat} {x1 : Int32} (hS : Sh10 X a) (h : Wn G m_X11_resistance (d + 1) 4 [(0, .ref a), (1, .int x1), (2, .int 1), (3, .int 0)] [] X M Q) : Wn G m_X11_resistance (d + 1) 0 [(0, .ref a), (1, .int x1)] [] X M Q := by
  refine wp_iconst (v := 1) dX11_resistance_0 rfl ?_
  refine wp_istore_n (lo2 := [(2, .int _), (0, .ref _), (1, .int _)]) dX11_resistance_1 rfl (by decide) rfl ?_
  refine wp_iconst (v := 0) dX11_resistance_2 rfl ?_
  refine wp_istore_n (lo2 := [(3, .int _), (2, .int _), (0, .ref _), (1, .int _)]) dX11_resistance_3 rfl (by decide) rfl ?_
  exact Wp.sub [2, 3, 1, 0] rfl h
theorem bX11_resistance_4 {G : Gl} {d : Nat} {X : Sh} {M : Mm} {Q : Mm → Int32 → Prop} {a : Nat} {x1 : Int32} {x2 : Int32} {x3 : Int32} (hS : Sh10 X a) (h : (((mI M (a + 1) 1) ≤ x3 → Q M x2) ∧ (¬ ((mI M (a + 1) 1) ≤ x3) → (∃ j2 : Nat, (((60 + 10 * x3) + 5) + x1) = nI j2 ∧ j2 < 2950 ∧ (∃ j5 : Nat, (60 + 10 * x3) = nI j5 ∧ j5 < 2950 ∧ (∃ j8 : Nat, (20 + 5 * (mI M (a + 1) j5)) = nI j8 ∧ j8 < 2950 ∧ (∀ v11 : Int32, v11 = (x2 + ((mI M (a + 1) j2) * (f_holds (mI M (a + 1) j8)))) → Wn G m_X11_resistance (d + 1) 4 [(0, .ref a), (1, .int x1), (2, .int v11), (3, .int (x3 + 1))] [] X M Q))))))) : Wn G m_X11_resistance (d + 1) 4 [(0, .ref a), (1, .int x1), (2, .int x2), (3, .int x3)] [] X M Q := by
  refine wp_iload_n 3 dX11_resistance_4 rfl rfl ?_
  refine wp_aload_n 0 dX11_resistance_5 rfl rfl ?_
  refine wp_getR dX11_resistance_6 fl_RX11_7 rfl (sh10_K hS) (sh10_F_s hS) ?_
  refine wp_iconst (v := 1) dX11_resistance_9 rfl ?_
  refine wp_iald (n := 2950) dX11_resistance_10 (sh10_K_s hS) (sh10_N_s hS) (by decide) rfl (by decide) ?_
  refine wp_icmp_ge (tgt := 60) dX11_resistance_11 (by decide) (fun c1 => ?_) (fun c1 => ?_)
  · replace h := h.1 c1
    refine wp_iload_n 2 dX11_resistance_60 rfl rfl ?_
    exact wn_iret dX11_resistance_61 rfl h
  · replace h := h.2 c1
    refine wp_iload_n 2 dX11_resistance_14 rfl rfl ?_
    refine wp_aload_n 0 dX11_resistance_15 rfl rfl ?_
    refine wp_getR dX11_resistance_16 fl_RX11_7 rfl (sh10_K hS) (sh10_F_s hS) ?_
    refine wp_aload_n 0 dX11_resistance_19 rfl rfl ?_
    refine wp_iload_n 3 dX11_resistance_20 rfl rfl ?_
    refine wp_cvip dX11_resistance_21 ck_RX11_134 (sh10_K hS) (as := [.int x3]) rfl rfl (Nat.le_of_ble_eq_true rfl) (cp_X11_layerAt G d X M a x3 hS) ?_
    refine wp_iconst (v := 5) dX11_resistance_24 rfl ?_
    refine wp_iadd dX11_resistance_25 ?_
    refine wp_iload_n 1 dX11_resistance_26 rfl rfl ?_
    refine wp_iadd dX11_resistance_27 ?_
    obtain ⟨j2, o3, o4, h⟩ := h
    refine wp_iald (n := 2950) dX11_resistance_28 (sh10_K_s hS) (sh10_N_s hS) (by decide) o3 o4 ?_
    refine wp_aload_n 0 dX11_resistance_29 rfl rfl ?_
    refine wp_getR dX11_resistance_30 fl_RX11_7 rfl (sh10_K hS) (sh10_F_s hS) ?_
    refine wp_aload_n 0 dX11_resistance_33 rfl rfl ?_
    refine wp_aload_n 0 dX11_resistance_34 rfl rfl ?_
    refine wp_getR dX11_resistance_35 fl_RX11_7 rfl (sh10_K hS) (sh10_F_s hS) ?_
    refine wp_aload_n 0 dX11_resistance_38 rfl rfl ?_
    refine wp_iload_n 3 dX11_resistance_39 rfl rfl ?_
    refine wp_cvip dX11_resistance_40 ck_RX11_134 (sh10_K hS) (as := [.int x3]) rfl rfl (Nat.le_of_ble_eq_true rfl) (cp_X11_layerAt G d X M a x3 hS) ?_
    obtain ⟨j5, o6, o7, h⟩ := h
    refine wp_iald (n := 2950) dX11_resistance_43 (sh10_K_s hS) (sh10_N_s hS) (by decide) o6 o7 ?_
    refine wp_cvip dX11_resistance_44 ck_RX11_86 (sh10_K hS) (as := [.int ((mI M (a + 1) j5))]) rfl rfl (Nat.le_of_ble_eq_true rfl) (cp_X11_binAt G d X M a (mI M (a + 1) j5) hS) ?_
    obtain ⟨j8, o9, o10, h⟩ := h
    refine wp_iald (n := 2950) dX11_resistance_47 (sh10_K_s hS) (sh10_N_s hS) (by decide) o9 o10 ?_
    refine wp_csip dX11_resistance_48 ck_RX11_106 rfl (as := [.int ((mI M (a + 1) j8))]) rfl rfl (Nat.le_of_ble_eq_true rfl) (cp_X11_holdsOf G d X M (mI M (a + 1) j8)) ?_
    refine wp_imul dX11_resistance_51 ?_
    refine wp_iadd dX11_resistance_52 ?_
    refine wp_topi (fun v11 ev11 => ?_)
    replace h := h v11 ev11
    refine wp_istore_n (lo2 := [(2, .int _), (0, .ref _), (1, .int _), (3, .int _)]) dX11_resistance_53 rfl (by decide) rfl ?_
    refine wp_iinc (v := x3 + 1) (lo2 := [(3, .int _), (2, .int _), (0, .ref _), (1, .int _)]) dX11_resistance_54 (q := 3) rfl rfl (by decide) rfl ?_
    refine wp_goto (tgt := 4) dX11_resistance_57 (by decide) ?_
    exact Wp.sub [2, 3, 1, 0] rfl h
theorem cl_X11_resistance (G : Gl) (d : Nat) {X : Sh} {M : Mm} {a r nl : Nat} {Q : Mm → Int32 → Prop} (hS : Sh10 X a) (hr : r < 5) (hn : mI M (a + 1) 1 = nI nl) (hnl : nl ≤ 24) (hb : ∀ l, l < nl → ∃ b, b < 6 ∧ mI M (a + 1) (60 + 10 * l) = nI b) (hq : Q M (s_res (mI M (a + 1)) nl r)) :
    ∀ n i : Nat, i + n = nl → Wn G m_X11_resistance (d + 1) 4 [(0, .ref a), (1, .int (nI r)), (2, .int (s_res (mI M (a + 1)) i r)), (3, .int (nI i))] [] X M Q
  | 0, i, h => by
    have hi : i = nl := h
    subst hi
    exact bX11_resistance_4 hS ⟨fun _ => hq, fun h => absurd (by rw [hn]; exact Int32.le_refl _) h⟩
  | n + 1, i, h => by
    obtain ⟨b, hb1, hb2⟩ := hb i (by omega)
    refine bX11_resistance_4 hS ⟨fun h2 => ?_, fun _ => ⟨65 + 10 * i + r, (by first | rfl | (simp only [n_lit, nI_add, pk_mul]; done) | (simp only [n_lit, nI_add, pk_mul]; exact congrArg nI (by omega))), by omega, 60 + 10 * i, (by first | rfl | (simp only [n_lit, nI_add, pk_mul]; done) | (simp only [n_lit, nI_add, pk_mul]; exact congrArg nI (by omega))), by omega, 20 + 5 * b, ?_, by omega, ?_⟩⟩
    · rw [hn] at h2
      have := (nI_leI (by omega) (by omega)).mp h2
      omega
    · rw [hb2]
      exact (by first | rfl | (simp only [n_lit, nI_add, pk_mul]; done) | (simp only [n_lit, nI_add, pk_mul]; exact congrArg nI (by omega)))
    · rintro v rfl
      rw [nI_1]
      have e : s_res (mI M (a + 1)) i r + mI M (a + 1) (65 + 10 * i + r) * f_holds (mI M (a + 1) (20 + 5 * b)) = s_res (mI M (a + 1)) (i + 1) r := by
        show _ = s_res (mI M (a + 1)) i r + _ * f_holds (mI M (a + 1) (20 + 5 * (mI M (a + 1) (60 + 10 * i)).toNatClampNeg))
        rw [hb2, nI_clamp (by omega)]
      rw [e]
      exact cl_X11_resistance G d hS hr hn hnl hb hq n (i + 1) (by omega)
theorem cp_X11_resistance (G : Gl) (d : Nat) (hd : 1 ≤ d) (X : Sh) (M : Mm) (a r nl : Nat) (hS : Sh10 X a) (hr : r < 5) (hn : mI M (a + 1) 1 = nI nl) (hnl : nl ≤ 24) (hb : ∀ l, l < nl → ∃ b, b < 6 ∧ mI M (a + 1) (60 + 10 * l) = nI b) : Cn G m_X11_resistance d [.ref a, .int (nI r)] X M (fun M2 x => M2 = M ∧ x = s_res (mI M (a + 1)) nl r) := by
  obtain ⟨d, rfl⟩ : ∃ d1, d = d1 + 1 := ⟨d - 1, by omega⟩
  refine Cn.of (by decide) (Nat.le_of_ble_eq_true rfl) (bX11_resistance_0 hS ?_)
  exact cl_X11_resistance G d hS hr hn hnl hb ⟨rfl, rfl⟩ nl 0 (by omega)
theorem bX11_bulkOfLayer_0 {G : Gl} {d : Nat} {X : Sh} {M : Mm} {Q : Mm → Int32 → Prop} {a : Nat} {x1 : Int32} (hS : Sh10 X a) (h : Wn G m_X11_bulkOfLayer (d + 1) 4 [(0, .ref a), (1, .int x1), (2, .int 0), (3, .int 0)] [] X M Q) : Wn G m_X11_bulkOfLayer (d + 1) 0 [(0, .ref a), (1, .int x1)] [] X M Q := by
  refine wp_iconst (v := 0) dX11_bulkOfLayer_0 rfl ?_
  refine wp_istore_n (lo2 := [(2, .int _), (0, .ref _), (1, .int _)]) dX11_bulkOfLayer_1 rfl (by decide) rfl ?_
  refine wp_iconst (v := 0) dX11_bulkOfLayer_2 rfl ?_
  refine wp_istore_n (lo2 := [(3, .int _), (2, .int _), (0, .ref _), (1, .int _)]) dX11_bulkOfLayer_3 rfl (by decide) rfl ?_
  exact Wp.sub [2, 3, 1, 0] rfl h
theorem bX11_bulkOfLayer_4 {G : Gl} {d : Nat} {X : Sh} {M : Mm} {Q : Mm → Int32 → Prop} {a : Nat} {x1 : Int32} {x2 : Int32} {x3 : Int32} (hS : Sh10 X a) (h : ((5 ≤ x3 → Q M x2) ∧ (¬ (5 ≤ x3) → (∃ j2 : Nat, (((60 + 10 * x1) + 5) + x3) = nI j2 ∧ j2 < 2950 ∧ (∀ v5 : Int32, v5 = (x2 + (mI M (a + 1) j2)) → Wn G m_X11_bulkOfLayer (d + 1) 4 [(0, .ref a), (1, .int x1), (2, .int v5), (3, .int (x3 + 1))] [] X M Q))))) : Wn G m_X11_bulkOfLayer (d + 1) 4 [(0, .ref a), (1, .int x1), (2, .int x2), (3, .int x3)] [] X M Q := by
  refine wp_iload_n 3 dX11_bulkOfLayer_4 rfl rfl ?_
  refine wp_iconst (v := 5) dX11_bulkOfLayer_5 rfl ?_
  refine wp_icmp_ge (tgt := 32) dX11_bulkOfLayer_6 (by decide) (fun c1 => ?_) (fun c1 => ?_)
  · replace h := h.1 c1
    refine wp_iload_n 2 dX11_bulkOfLayer_32 rfl rfl ?_
    exact wn_iret dX11_bulkOfLayer_33 rfl h
  · replace h := h.2 c1
    refine wp_iload_n 2 dX11_bulkOfLayer_9 rfl rfl ?_
    refine wp_aload_n 0 dX11_bulkOfLayer_10 rfl rfl ?_
    refine wp_getR dX11_bulkOfLayer_11 fl_RX11_7 rfl (sh10_K hS) (sh10_F_s hS) ?_
    refine wp_aload_n 0 dX11_bulkOfLayer_14 rfl rfl ?_
    refine wp_iload_n 1 dX11_bulkOfLayer_15 rfl rfl ?_
    refine wp_cvip dX11_bulkOfLayer_16 ck_RX11_134 (sh10_K hS) (as := [.int x1]) rfl rfl (Nat.le_of_ble_eq_true rfl) (cp_X11_layerAt G d X M a x1 hS) ?_
    refine wp_iconst (v := 5) dX11_bulkOfLayer_19 rfl ?_
    refine wp_iadd dX11_bulkOfLayer_20 ?_
    refine wp_iload_n 3 dX11_bulkOfLayer_21 rfl rfl ?_
    refine wp_iadd dX11_bulkOfLayer_22 ?_
    obtain ⟨j2, o3, o4, h⟩ := h
    refine wp_iald (n := 2950) dX11_bulkOfLayer_23 (sh10_K_s hS) (sh10_N_s hS) (by decide) o3 o4 ?_
    refine wp_iadd dX11_bulkOfLayer_24 ?_
    refine wp_topi (fun v5 ev5 => ?_)
    replace h := h v5 ev5
    refine wp_istore_n (lo2 := [(2, .int _), (0, .ref _), (1, .int _), (3, .int _)]) dX11_bulkOfLayer_25 rfl (by decide) rfl ?_
    refine wp_iinc (v := x3 + 1) (lo2 := [(3, .int _), (2, .int _), (0, .ref _), (1, .int _)]) dX11_bulkOfLayer_26 (q := 3) rfl rfl (by decide) rfl ?_
    refine wp_goto (tgt := 4) dX11_bulkOfLayer_29 (by decide) ?_
    exact Wp.sub [2, 3, 1, 0] rfl h
theorem cl_X11_bulkOfLayer (G : Gl) (d : Nat) {X : Sh} {M : Mm} {a l : Nat} {Q : Mm → Int32 → Prop} (hS : Sh10 X a) (hl : l < 24) (hq : Q M (s_bulkOf (mI M (a + 1)) l)) :
    ∀ n i : Nat, i + n = 5 → Wn G m_X11_bulkOfLayer (d + 1) 4 [(0, .ref a), (1, .int (nI l)), (2, .int (s_sum (fun r => mI M (a + 1) (65 + 10 * l + r)) 0 i)), (3, .int (nI i))] [] X M Q
  | 0, i, h => by
    have hi : i = 5 := h
    subst hi
    exact bX11_bulkOfLayer_4 hS ⟨fun _ => hq, fun h => absurd (by decide) h⟩
  | n + 1, i, h => by
    have hi : ¬ (5 : Int32) ≤ nI i := fun q => by
      have := (nI_leI (a := 5) (by omega) (by omega)).mp q
      omega
    refine bX11_bulkOfLayer_4 hS ⟨fun h2 => absurd h2 hi, fun _ => ⟨65 + 10 * l + i, (by first | rfl | (simp only [n_lit, nI_add, pk_mul]; done) | (simp only [n_lit, nI_add, pk_mul]; exact congrArg nI (by omega))), by omega, ?_⟩⟩
    rintro v rfl
    rw [nI_1]
    exact cl_X11_bulkOfLayer G d hS hl hq n (i + 1) (by omega)
theorem cp_X11_bulkOfLayer (G : Gl) (d : Nat) (hd : 1 ≤ d) (X : Sh) (M : Mm) (a l : Nat) (hS : Sh10 X a) (hl : l < 24) : Cn G m_X11_bulkOfLayer d [.ref a, .int (nI l)] X M (fun M2 x => M2 = M ∧ x = s_bulkOf (mI M (a + 1)) l) := by
  obtain ⟨d, rfl⟩ : ∃ d1, d = d1 + 1 := ⟨d - 1, by omega⟩
  refine Cn.of (by decide) (Nat.le_of_ble_eq_true rfl) (bX11_bulkOfLayer_0 hS ?_)
  exact cl_X11_bulkOfLayer G d hS hl ⟨rfl, rfl⟩ 5 0 (by omega)
theorem bX11_counts_0 {G : Gl} {d : Nat} {X : Sh} {M : Mm} {Q : Mm → Int32 → Prop} {a : Nat} {x1 : Int32} (hS : Sh10 X a) (h : Wn G m_X11_counts (d + 1) 4 [(0, .ref a), (1, .int x1), (2, .int (-1)), (3, .int 0)] [] X M Q) : Wn G m_X11_counts (d + 1) 0 [(0, .ref a), (1, .int x1)] [] X M Q := by
  refine wp_iconst (v := (-1)) dX11_counts_0 rfl ?_
  refine wp_istore_n (lo2 := [(2, .int _), (0, .ref _), (1, .int _)]) dX11_counts_1 rfl (by decide) rfl ?_
  refine wp_iconst (v := 0) dX11_counts_2 rfl ?_
  refine wp_istore_n (lo2 := [(3, .int _), (2, .int _), (0, .ref _), (1, .int _)]) dX11_counts_3 rfl (by decide) rfl ?_
  exact Wp.sub [2, 3, 1, 0] rfl h
theorem bX11_counts_4 {G : Gl} {d : Nat} {X : Sh} {M : Mm} {Q : Mm → Int32 → Prop} {a : Nat} {x1 : Int32} {x2 : Int32} {x3 : Int32} (hS : Sh10 X a) (h : (((mI M (a + 1) 2) ≤ x3 → Q M x2) ∧ (¬ ((mI M (a + 1) 2) ≤ x3) → (∃ j2 : Nat, (340 + 200 * x3) = nI j2 ∧ j2 < 2950 ∧ (∀ v7 : Int32, v7 = (if (mI M (a + 1) j2) = x1 then x3 else x2) → Wn G m_X11_counts (d + 1) 4 [(0, .ref a), (1, .int x1), (2, .int v7), (3, .int (x3 + 1))] [] X M Q))))) : Wn G m_X11_counts (d + 1) 4 [(0, .ref a), (1, .int x1), (2, .int x2), (3, .int x3)] [] X M Q := by
  refine wp_iload_n 3 dX11_counts_4 rfl rfl ?_
  refine wp_aload_n 0 dX11_counts_5 rfl rfl ?_
  refine wp_getR dX11_counts_6 fl_RX11_7 rfl (sh10_K hS) (sh10_F_s hS) ?_
  refine wp_iconst (v := 2) dX11_counts_9 rfl ?_
  refine wp_iald (n := 2950) dX11_counts_10 (sh10_K_s hS) (sh10_N_s hS) (by decide) rfl (by decide) ?_
  refine wp_icmp_ge (tgt := 40) dX11_counts_11 (by decide) (fun c1 => ?_) (fun c1 => ?_)
  · replace h := h.1 c1
    refine wp_iload_n 2 dX11_counts_40 rfl rfl ?_
    exact wn_iret dX11_counts_41 rfl h
  · replace h := h.2 c1
    refine wp_aload_n 0 dX11_counts_14 rfl rfl ?_
    refine wp_getR dX11_counts_15 fl_RX11_7 rfl (sh10_K hS) (sh10_F_s hS) ?_
    refine wp_aload_n 0 dX11_counts_18 rfl rfl ?_
    refine wp_iload_n 3 dX11_counts_19 rfl rfl ?_
    refine wp_cvip dX11_counts_20 ck_RX11_300 (sh10_K hS) (as := [.int x3]) rfl rfl (Nat.le_of_ble_eq_true rfl) (cp_X11_textAt G d X M a x3 hS) ?_
    obtain ⟨j2, o3, o4, h⟩ := h
    refine wp_iald (n := 2950) dX11_counts_23 (sh10_K_s hS) (sh10_N_s hS) (by decide) o3 o4 ?_
    refine wp_iload_n 1 dX11_counts_24 rfl rfl ?_
    have K6 : Wp G m_X11_counts (d + 1) 0 0 0 0 33 [(0, .ref a), (1, .int x1), (2, .int x2), (3, .int x3)] [.int ((if (mI M (a + 1) j2) = x1 then x3 else x2))] X M (fun X2 M2 v => X2 = X ∧ ∃ x, v = some (.int x) ∧ Q M2 x) := by
      refine wp_topi (fun v7 ev7 => ?_)
      replace h := h v7 ev7
      refine wp_istore_n (lo2 := [(2, .int _), (0, .ref _), (1, .int _), (3, .int _)]) dX11_counts_33 rfl (by decide) rfl ?_
      refine wp_iinc (v := x3 + 1) (lo2 := [(3, .int _), (2, .int _), (0, .ref _), (1, .int _)]) dX11_counts_34 (q := 3) rfl rfl (by decide) rfl ?_
      refine wp_goto (tgt := 4) dX11_counts_37 (by decide) ?_
      exact Wp.sub [2, 3, 1, 0] rfl h
    refine wp_icmp_ne (tgt := 32) dX11_counts_25 (by decide) (fun c5 => ?_) (fun c5 => ?_)
    · refine wp_iload_n 2 dX11_counts_32 rfl rfl ?_
      rw [if_neg c5] at K6
      exact K6
    · refine wp_iload_n 3 dX11_counts_28 rfl rfl ?_
      refine wp_goto (tgt := 33) dX11_counts_29 (by decide) ?_
      rw [if_pos c5] at K6
      exact K6
theorem cl_X11_counts (G : Gl) (d : Nat) {X : Sh} {M : Mm} {a nx : Nat} {key : Int32} {Q : Mm → Int32 → Prop} (hS : Sh10 X a) (hn : mI M (a + 1) 2 = nI nx) (hnx : nx ≤ 12) (hq : Q M (s_counts (mI M (a + 1)) key nx)) :
    ∀ n i : Nat, i + n = nx → Wn G m_X11_counts (d + 1) 4 [(0, .ref a), (1, .int key), (2, .int (s_counts (mI M (a + 1)) key i)), (3, .int (nI i))] [] X M Q
  | 0, i, h => by
    have hi : i = nx := h
    subst hi
    exact bX11_counts_4 hS ⟨fun _ => hq, fun h => absurd (by rw [hn]; exact Int32.le_refl _) h⟩
  | n + 1, i, h => by
    refine bX11_counts_4 hS ⟨fun h2 => ?_, fun _ => ⟨340 + 200 * i, (by first | rfl | (simp only [n_lit, nI_add, pk_mul]; done) | (simp only [n_lit, nI_add, pk_mul]; exact congrArg nI (by omega))), by omega, ?_⟩⟩
    · rw [hn] at h2
      have := (nI_leI (by omega) (by omega)).mp h2
      omega
    · rintro v rfl
      rw [nI_1]
      exact cl_X11_counts G d hS hn hnx hq n (i + 1) (by omega)
theorem cp_X11_counts (G : Gl) (d : Nat) (hd : 1 ≤ d) (X : Sh) (M : Mm) (a nx : Nat) (key : Int32) (hS : Sh10 X a) (hn : mI M (a + 1) 2 = nI nx) (hnx : nx ≤ 12) : Cn G m_X11_counts d [.ref a, .int key] X M (fun M2 x => M2 = M ∧ x = s_counts (mI M (a + 1)) key nx) := by
  obtain ⟨d, rfl⟩ : ∃ d1, d = d1 + 1 := ⟨d - 1, by omega⟩
  refine Cn.of (by decide) (Nat.le_of_ble_eq_true rfl) (bX11_counts_0 hS ?_)
  exact cl_X11_counts G d hS hn hnx ⟨rfl, rfl⟩ nx 0 (by omega)
