/-! the class's furnace: layers that are gone, an hour -/
theorem s_sum_nat {f : Nat → Int32} {ρ : Nat → Nat} {z : Nat} : ∀ {n : Nat}, (∀ r, r < n → f r = nI (ρ r)) → s_sum f (nI z) n = nI (z + nsum ρ n)
  | 0, _ => rfl
  | n + 1, h => by
    show s_sum f (nI z) n + f n = nI (z + (nsum ρ n + ρ n))
    rw [s_sum_nat (n := n) (fun r hr => h r (by omega)), h n (by omega), nI_add, Nat.add_assoc]
theorem s_sum_front (f : Nat → Int32) (z : Int32) : ∀ n, s_sum f z (n + 1) = s_sum (fun j => f (j + 1)) (z + f 0) n
  | 0 => rfl
  | n + 1 => by
    show s_sum f z (n + 1) + f (n + 1) = s_sum (fun j => f (j + 1)) (z + f 0) n + f (n + 1)
    rw [s_sum_front f z n]
theorem scpl_o {σ : Nat → Int32} {l to k : Nat} (h : k < 60 + 10 * to ∨ 70 + 10 * to ≤ k) : s_cpl σ l to k = σ k := if_neg (by omega)
theorem scpl_t {σ : Nat → Int32} {l to k : Nat} (h : k < 10) : s_cpl σ l to (60 + 10 * to + k) = σ (60 + 10 * l + k) := by
  unfold s_cpl
  rw [if_pos (by omega), show 60 + 10 * to + k - (60 + 10 * to) = k by omega]
theorem scpl_same (σ : Nat → Int32) (l : Nat) : s_cpl σ l l = σ := by
  funext k
  unfold s_cpl
  split
  · congr 1
    omega
  · rfl
/-- a layer in order stays so in another row that says the same of it -/
theorem WL.move {σ τ : Nat → Int32} {l j : Nat} (h : WL σ j) (h1 : ∀ k, 20 ≤ k → k < 50 → τ k = σ k) (hk : ∀ k, k < 10 → τ (60 + 10 * l + k) = σ (60 + 10 * j + k)) : WL τ l := by
  obtain ⟨b, k, sh, t, w, g, ρ, hb, hk5, hsh, ht, hw1, hw2, e0, ek, es, et, ew, eg, er, hs⟩ := h
  have q : ∀ k, k < 10 → ∀ m, m = 60 + 10 * l + k → ∀ m2, m2 = 60 + 10 * j + k → τ m = σ m2 := fun k hk2 m e m2 e2 => by
    rw [e, e2]
    exact hk k hk2
  refine ⟨b, k, sh, t, w, g, ρ, hb, hk5, hsh, ht, hw1, hw2, ?_, (h1 _ (by omega) (by omega)).trans ek, (h1 _ (by omega) (by omega)).trans es, ?_, ?_, ?_, fun r hr => ?_, hs⟩
  · exact (q 0 (by omega) _ (by omega) (60 + 10 * j) (by omega)).trans e0
  · exact (q 2 (by omega) _ (by omega) (62 + 10 * j) (by omega)).trans et
  · exact (q 3 (by omega) _ (by omega) (63 + 10 * j) (by omega)).trans ew
  · exact (q 4 (by omega) _ (by omega) (64 + 10 * j) (by omega)).trans eg
  · exact (q (5 + r) (by omega) _ (by omega) (65 + 10 * j + r) (by omega)).trans (er r hr)
/-- what is left of a layer in order is what lies in its rings -/
theorem WL.left {M : Mm} {a l : Nat} {σ : Nat → Int32} (h : WL σ l) (hL : LD M a σ l) : mI M a 8 = s_bulkOf σ l := by
  obtain ⟨b, k, sh, t, w, g, ρ, hb, hk5, hsh, ht, hw1, hw2, e0, ek, es, et, ew, eg, er, hs⟩ := h
  rw [hL.2.2.2.2.2.2.2.2.1, ew, eg, nI_subI _ _ (by omega)]
  have := s_sum_nat (f := fun r => σ (65 + 10 * l + r)) (ρ := ρ) (z := 0) (n := 5) er
  show _ = s_sum (fun r => σ (65 + 10 * l + r)) (nI 0) 5
  rw [this]
  congr 1
  omega
theorem WL.gone {σ : Nat → Int32} {l : Nat} (h : WL σ l) (h0 : s_bulkOf σ l ≤ 0) : s_bulkOf σ l = 0 ∧ ∀ r, r < 5 → σ (65 + 10 * l + r) = 0 := by
  obtain ⟨b, k, sh, t, w, g, ρ, hb, hk5, hsh, ht, hw1, hw2, e0, ek, es, et, ew, eg, er, hs⟩ := h
  have h1 : s_bulkOf σ l = nI (nsum ρ 5) := by
    have := s_sum_nat (f := fun r => σ (65 + 10 * l + r)) (ρ := ρ) (z := 0) (n := 5) er
    rw [Nat.zero_add] at this
    exact this
  rw [h1] at h0
  have h2 : nsum ρ 5 = 0 := by
    have := (nI_leI (a := nsum ρ 5) (b := 0) (by omega) (by omega)).mp h0
    omega
  refine ⟨by rw [h1, h2]; rfl, fun r hr => ?_⟩
  have := nsum_at (f := ρ) hr
  rw [er r hr, show ρ r = 0 by omega]
  rfl
/-- where the followed layer has come to: fol was its place, a its layer -/
def Fol (M : Mm) (la : Nat → Nat) (to : Nat) (g : Int32) (a : Nat) : Prop := (∃ j, j < to ∧ g = nI j ∧ la j = a) ∨ (g = -1 ∧ mI M a 8 = 0)
/-- under way: l layers have been looked at, to have stayed -/
def DropI (M : Mm) (f : Nat) (τ : Nat → Int32) (l to n : Nat) (la : Nat → Nat) : Prop :=
  LPm M f la ∧ (∀ j, j < to → LD M (la j) τ j ∧ WL τ j ∧ ¬ s_bulkOf τ j ≤ 0) ∧ (∀ j, l ≤ j → j < l + n → LD M (la j) τ j ∧ WL τ j) ∧ (mI M f 0 = τ 5 ∧ mI M f 1 = τ 9 ∧ mI M f 2 = τ 10 ∧ mI M f 3 = τ 11) ∧ (∀ r, r < 5 → mI M (f + 50) r = s_sum (fun j => τ (65 + 10 * (l + j) + r)) (s_bulkIn τ r to) n)
def DropQ (M : Mm) (f to : Nat) (M2 : Mm) : Prop := mI M2 = up2 (mI M) f 5 (nI to) ∧ (∀ c, c ≠ f + 1 → mR M2 c = mR M c)
theorem DropI.skip {M : Mm} {f l to n : Nat} {τ : Nat → Int32} {la : Nat → Nat} (h : DropI M f τ l to (n + 1) la) (h0 : s_bulkOf τ l ≤ 0) : DropI M f τ (l + 1) to n la := by
  obtain ⟨hP, h1, h2, h3, h4⟩ := h
  refine ⟨hP, h1, fun j h5 h6 => h2 j (by omega) (by omega), h3, fun r hr => ?_⟩
  have h7 := ((h2 l (by omega) (by omega)).2.gone h0).2 r hr
  rw [h4 r hr, s_sum_front]
  show s_sum _ (_ + τ (65 + 10 * l + r)) n = _
  rw [h7, Int32.add_zero]
  exact s_sum_cong (fun k hk => by rw [show 65 + 10 * (l + (k + 1)) + r = 65 + 10 * (l + 1 + k) + r by omega])
def sw (la : Nat → Nat) (l to : Nat) : Nat → Nat := fun j => if j = to then la l else if j = l then la to else la j
theorem DropI.keep {M M2 : Mm} {f l to n : Nat} {τ : Nat → Int32} {la : Nat → Nat} (h : DropI M f τ l to (n + 1) la) (hto : to ≤ l) (hl : l + (n + 1) ≤ 24) (h0 : ¬ s_bulkOf τ l ≤ 0) (eI : mI M2 = mI M) (eR : mR M2 (f + 1) = va_up (va_up (mR M (f + 1)) l (some (la to))) to (some (la l))) : DropI M2 f (s_cpl τ l to) (l + 1) (to + 1) n (sw la l to) := by
  obtain ⟨hP, h1, h2, h3, h4⟩ := h
  have hl2 := h2 l (by omega) (by omega)
  have ob : ∀ k, k < 60 → s_cpl τ l to k = τ k := fun k hk => scpl_o (by omega)
  have lds : ∀ j, j ≠ to → WL τ j → LD M (la j) τ j → LD M2 (la j) (s_cpl τ l to) j := fun j hj hw hd => by
    obtain ⟨b, k, sh, t, w, g, ρ, hb, hk5, hsh, ht, hw1, hw2, e0, _⟩ := hw
    exact LD.move hd e0 hb (ob _ (by omega)) (ob _ (by omega)) (fun k hk => scpl_o (by omega)) (by rw [eI]) (by rw [eI])
  refine ⟨⟨fun j hj => ?_, fun j hj => ?_, fun i j hi hj e => ?_⟩, fun j hj => ?_, fun j h5 h6 => ?_, ?_, fun r hr => ?_⟩
  · rw [eR]
    unfold sw va_up
    by_cases e1 : j = to
    · subst e1
      simp
    · by_cases e2 : j = l
      · subst e2
        simp [e1]
      · simp only [e1, e2, if_false]
        exact hP.1 j hj
  · unfold sw
    split
    · exact hP.2.1 l (by omega)
    · split
      · exact hP.2.1 to (by omega)
      · exact hP.2.1 j hj
  · have inj := hP.2.2
    unfold sw at e
    by_cases a1 : i = to <;> by_cases a2 : j = to <;> by_cases a3 : i = l <;> by_cases a4 : j = l <;> simp only [a1, a2, a3, a4, if_true, if_false] at e ⊢ <;> first
      | omega
      | (have := inj _ _ (by omega) (by omega) e; omega)
      | (split at e <;> (have := inj _ _ (by omega) (by omega) e; omega))
  · by_cases e1 : j = to
    · subst e1
      have e2 : sw la l j j = la l := if_pos rfl
      rw [e2]
      obtain ⟨b, k, sh, t, w, g, ρ, hb, hk5, hsh, ht, hw1, hw2, e0, _⟩ := hl2.2
      refine ⟨LD.move hl2.1 e0 hb (ob _ (by omega)) (ob _ (by omega)) (fun k hk => scpl_t hk) (by rw [eI]) (by rw [eI]), hl2.2.move (fun k _ hk => ob k (by omega)) (fun k hk => scpl_t hk), ?_⟩
      have e3 : s_bulkOf (s_cpl τ l j) j = s_bulkOf τ l := s_sum_cong (fun r hr => by
        have := scpl_t (σ := τ) (l := l) (to := j) (k := 5 + r) (by omega)
        rw [show 60 + 10 * j + (5 + r) = 65 + 10 * j + r by omega, show 60 + 10 * l + (5 + r) = 65 + 10 * l + r by omega] at this
        exact this)
      rw [e3]
      exact h0
    · have h5 := h1 j (by omega)
      have e2 : sw la l to j = la j := by
        unfold sw
        rw [if_neg e1, if_neg (by omega)]
      rw [e2]
      refine ⟨lds j e1 h5.2.1 h5.1, h5.2.1.move (fun k _ hk => ob k (by omega)) (fun k hk => scpl_o (by omega)), ?_⟩
      have e3 : s_bulkOf (s_cpl τ l to) j = s_bulkOf τ j := s_sum_cong (fun r hr => scpl_o (by omega))
      rw [e3]
      exact h5.2.2
  · have h7 := h2 j (by omega) (by omega)
    have e2 : sw la l to j = la j := by
      unfold sw
      rw [if_neg (by omega), if_neg (by omega)]
    rw [e2]
    exact ⟨lds j (by omega) h7.2 h7.1, h7.2.move (fun k _ hk => ob k (by omega)) (fun k hk => scpl_o (by omega))⟩
  · rw [eI, ob _ (by omega), ob _ (by omega), ob _ (by omega), ob _ (by omega)]
    exact h3
  · rw [eI, h4 r hr, s_sum_front]
    have e3 : s_bulkIn (s_cpl τ l to) r (to + 1) = s_bulkIn τ r to + τ (65 + 10 * l + r) := by
      show s_bulkIn (s_cpl τ l to) r to + s_cpl τ l to (65 + 10 * to + r) = _
      have := scpl_t (σ := τ) (l := l) (to := to) (k := 5 + r) (by omega)
      rw [show 60 + 10 * to + (5 + r) = 65 + 10 * to + r by omega, show 60 + 10 * l + (5 + r) = 65 + 10 * l + r by omega] at this
      rw [this]
      congr 1
      exact s_sum_cong (fun k hk => scpl_o (by omega))
    rw [e3]
    show s_sum _ (_ + τ (65 + 10 * l + r)) n = _
    exact s_sum_cong (fun k hk => by rw [scpl_o (by omega), show 65 + 10 * (l + (k + 1)) + r = 65 + 10 * (l + 1 + k) + r by omega])
theorem bX1_dropEmptyLayers_0 {G : Gl} {d : Nat} {X : Sh} {M : Mm} {Q : Mm → Prop} {a : Nat} (hS : Sh1 X a) (h : Wv G m_X1_dropEmptyLayers d 4 [(0, .ref a), (1, .int 0), (2, .int 0)] [] X M Q) : Wv G m_X1_dropEmptyLayers d 0 [(0, .ref a)] [] X M Q := by
  refine wp_iconst (v := 0) dX1_dropEmptyLayers_0 rfl ?_
  refine wp_istore_n (lo2 := [(1, .int _), (0, .ref _)]) dX1_dropEmptyLayers_1 rfl (by decide) rfl ?_
  refine wp_iconst (v := 0) dX1_dropEmptyLayers_2 rfl ?_
  refine wp_istore_n (lo2 := [(2, .int _), (1, .int _), (0, .ref _)]) dX1_dropEmptyLayers_3 rfl (by decide) rfl ?_
  exact Wp.sub [2, 1, 0] rfl h
theorem bX1_dropEmptyLayers_4 {G : Gl} {d : Nat} {X : Sh} {M : Mm} {Q : Mm → Prop} {a : Nat} {x1 : Int32} {x2 : Int32} (hS : Sh1 X a) (h : (((mI M a 5) ≤ x2 → (∀ M2 : Mm, M2 = sI M a 5 x1 → Q M2)) ∧ (¬ ((mI M a 5) ≤ x2) → (∃ j3 : Nat, x2 = nI j3 ∧ j3 < 24 ∧ (∃ la6 : Nat, mR M (a + 1) j3 = some la6 ∧ Sh4 X la6 ∧ (((mI M la6 8) ≤ 0 → Wv G m_X1_dropEmptyLayers d 4 [(0, .ref a), (1, .int x1), (2, .int (x2 + 1))] [] X M Q) ∧ (¬ ((mI M la6 8) ≤ 0) → (∃ j10 : Nat, x1 = nI j10 ∧ j10 < 24 ∧ (∃ la13 : Nat, mR M (a + 1) j10 = some la13 ∧ Sh4 X la13 ∧ (∀ M16 : Mm, M16 = sR M (a + 1) j3 (some la13) → (∀ M17 : Mm, M17 = sR M16 (a + 1) j10 (some la6) → Wv G m_X1_dropEmptyLayers d 4 [(0, .ref a), (1, .int (x1 + 1)), (2, .int (x2 + 1))] [] X M17 Q))))))))))) : Wv G m_X1_dropEmptyLayers d 4 [(0, .ref a), (1, .int x1), (2, .int x2)] [] X M Q := by
  refine wp_iload_n 2 dX1_dropEmptyLayers_4 rfl rfl ?_
  refine wp_aload_n 0 dX1_dropEmptyLayers_5 rfl rfl ?_
  refine wp_getI dX1_dropEmptyLayers_6 fl_RX1_31 rfl (sh1_K hS) ?_
  refine wp_icmp_ge (tgt := 54) dX1_dropEmptyLayers_9 (by decide) (fun c1 => ?_) (fun c1 => ?_)
  · replace h := h.1 c1
    refine wp_aload_n 0 dX1_dropEmptyLayers_54 rfl rfl ?_
    refine wp_iload_n 1 dX1_dropEmptyLayers_55 rfl rfl ?_
    refine wp_putI dX1_dropEmptyLayers_56 fp_RX1_31 rfl (sh1_K hS) ?_
    refine wp_nm (fun M2 eM2 => ?_)
    replace h := h M2 eM2
    exact wv_ret dX1_dropEmptyLayers_59 rfl h
  · replace h := h.2 c1
    refine wp_aload_n 0 dX1_dropEmptyLayers_12 rfl rfl ?_
    refine wp_getR dX1_dropEmptyLayers_13 fl_RX1_26 rfl (sh1_K hS) (sh1_F_layers hS) ?_
    refine wp_iload_n 2 dX1_dropEmptyLayers_16 rfl rfl ?_
    obtain ⟨j3, o4, o5, h⟩ := h
    obtain ⟨la6, o7, o8, h⟩ := h
    refine wp_rald (n := 24) dX1_dropEmptyLayers_17 (sh1_K_layers hS) (sh1_N_layers hS) (by decide) o4 o5 o7 ?_
    refine wp_astore_n (lo2 := [(3, .ref _), (0, .ref _), (1, .int _), (2, .int _)]) dX1_dropEmptyLayers_18 rfl (by decide) rfl ?_
    refine wp_aload_n 0 dX1_dropEmptyLayers_19 rfl rfl ?_
    refine wp_getI dX1_dropEmptyLayers_20 fl_RX1_129 rfl (sh4_K o8) ?_
    refine wp_if_le (tgt := 48) dX1_dropEmptyLayers_23 (by decide) (fun c9 => ?_) (fun c9 => ?_)
    · replace h := h.1 c9
      refine wp_iinc (v := x2 + 1) (lo2 := [(2, .int _), (3, .ref _), (0, .ref _), (1, .int _)]) dX1_dropEmptyLayers_48 (q := 3) rfl rfl (by decide) rfl ?_
      refine wp_goto (tgt := 4) dX1_dropEmptyLayers_51 (by decide) ?_
      exact Wp.sub [2, 3, 0] rfl h
    · replace h := h.2 c9
      refine wp_aload_n 1 dX1_dropEmptyLayers_26 rfl rfl ?_
      refine wp_getR dX1_dropEmptyLayers_27 fl_RX1_26 rfl (sh1_K hS) (sh1_F_layers hS) ?_
      refine wp_iload_n 3 dX1_dropEmptyLayers_30 rfl rfl ?_
      refine wp_aload_n 1 dX1_dropEmptyLayers_31 rfl rfl ?_
      refine wp_getR dX1_dropEmptyLayers_32 fl_RX1_26 rfl (sh1_K hS) (sh1_F_layers hS) ?_
      refine wp_iload_n 2 dX1_dropEmptyLayers_35 rfl rfl ?_
      obtain ⟨j10, o11, o12, h⟩ := h
      obtain ⟨la13, o14, o15, h⟩ := h
      refine wp_rald (n := 24) dX1_dropEmptyLayers_36 (sh1_K_layers hS) (sh1_N_layers hS) (by decide) o11 o12 o14 ?_
      refine wp_rast (n := 24) dX1_dropEmptyLayers_37 (sh1_K_layers hS) (sh1_N_layers hS) (by decide) o4 o5 (sh4_K o15) ?_
      refine wp_nm (fun M16 eM16 => ?_)
      replace h := h M16 eM16
      refine wp_aload_n 1 dX1_dropEmptyLayers_38 rfl rfl ?_
      refine wp_getR dX1_dropEmptyLayers_39 fl_RX1_26 rfl (sh1_K hS) (sh1_F_layers hS) ?_
      refine wp_iload_n 2 dX1_dropEmptyLayers_42 rfl rfl ?_
      refine wp_aload_n 0 dX1_dropEmptyLayers_43 rfl rfl ?_
      refine wp_rast (n := 24) dX1_dropEmptyLayers_44 (sh1_K_layers hS) (sh1_N_layers hS) (by decide) o11 o12 (sh4_K o8) ?_
      refine wp_nm (fun M17 eM17 => ?_)
      replace h := h M17 eM17
      refine wp_iinc (v := x1 + 1) (lo2 := [(1, .int _), (3, .ref _), (0, .ref _), (2, .int _)]) dX1_dropEmptyLayers_45 (q := 2) rfl rfl (by decide) rfl ?_
      refine wp_iinc (v := x2 + 1) (lo2 := [(2, .int _), (1, .int _), (3, .ref _), (0, .ref _)]) dX1_dropEmptyLayers_48 (q := 3) rfl rfl (by decide) rfl ?_
      refine wp_goto (tgt := 4) dX1_dropEmptyLayers_51 (by decide) ?_
      exact Wp.sub [3, 1, 0] rfl h
theorem cl_X1_drop (G : Gl) (d : Nat) {X : Sh} {f nl : Nat} {fol : Int32} {la0 : Nat → Nat} {Q : Mm → Prop} (hS : Sh1 X f) (hnl : nl ≤ 24) :
    ∀ (n l to : Nat) (g : Int32) (M : Mm) (τ : Nat → Int32) (la : Nat → Nat), l + n = nl → to ≤ l → mI M f 5 = nI nl → DropI M f τ l to n la →
      (∀ l0, l0 < nl → fol = nI l0 → (l ≤ l0 → la l0 = la0 l0 ∧ g = -1) ∧ (l0 < l → Fol M la to g (la0 l0))) →
      (∀ M2 la2, DropQ M f (s_drop fol n l to g τ).1 M2 → DropI M2 f (s_drop fol n l to g τ).2.2 nl (s_drop fol n l to g τ).1 0 la2 → (∀ l0, l0 < nl → fol = nI l0 → Fol M2 la2 (s_drop fol n l to g τ).1 (s_drop fol n l to g τ).2.1 (la0 l0)) → Q M2) →
      Wv G m_X1_dropEmptyLayers d 4 [(0, .ref f), (1, .int (nI to)), (2, .int (nI l))] [] X M Q
  | 0, l, to, g, M, τ, la, h, hto, hn, hI, hf, hq => by
    have hi : l = nl := h
    subst hi
    refine bX1_dropEmptyLayers_4 hS ⟨fun _ => ?_, fun h => absurd (by rw [hn]; exact Int32.le_refl _) h⟩
    intro M2 e2
    have eo : ∀ c, c ≠ f → mI M2 c = mI M c := fun c hc => by rw [e2, mI_sI, up2_off _ _ _ hc]
    have eR : mR M2 = mR M := by
      rw [e2]
      rfl
    obtain ⟨hP, h1, h2, h3, h4⟩ := hI
    have pa := fun j (hj : j < 24) => hP.at (l := j) hj
    have ek : ∀ k, k ≠ 5 → mI M2 f k = mI M f k := fun k hk => by rw [e2, mI_sI, up2_k _ _ _ hk]
    refine hq M2 la ⟨by rw [e2, mI_sI]; rfl, fun c _ => by rw [eR]⟩ ⟨hP.mR eR, fun j hj => ?_, fun j h5 h6 => absurd h6 (by omega), ?_, fun r hr => ?_⟩ (fun l0 h5 h6 => ?_)
    · have hj : j < to := hj
      obtain ⟨h7, h8⟩ := h1 j hj
      have := pa j (by omega)
      unfold LD
      rw [eo _ (by omega), eo _ (by omega)]
      exact ⟨h7, h8⟩
    · rw [ek _ (by omega), ek _ (by omega), ek _ (by omega), ek _ (by omega)]
      exact h3
    · rw [eo _ (by omega)]
      exact h4 r hr
    · have h7 := (hf l0 h5 h6).2 h5
      rcases h7 with h7 | ⟨h7, h8⟩
      · exact Or.inl h7
      · refine Or.inr ⟨h7, ?_⟩
        by_cases e : la0 l0 = f
        · rw [e] at h8 ⊢
          rw [ek _ (by omega)]
          exact h8
        · rw [eo _ e]
          exact h8
  | n + 1, l, to, g, M, τ, la, h, hto, hn, hI, hf, hq => by
    have hP := hI.1
    have h2 := hI.2.2.1 l (by omega) (by omega)
    have el := h2.2.left h2.1
    refine bX1_dropEmptyLayers_4 hS ⟨fun h2 => ?_, fun _ => ⟨l, rfl, by omega, la l, hP.1 l (by omega), hP.sh hS (by omega), fun h5 => ?_, fun h5 => ⟨to, rfl, by omega, la to, hP.1 to (by omega), hP.sh hS (by omega), ?_⟩⟩⟩
    · rw [hn] at h2
      have := (nI_leI (by omega) (by omega)).mp h2
      omega
    · rw [el] at h5
      rw [nI_1]
      rw [s_drop_cons_skip h5] at hq
      refine cl_X1_drop G d hS hnl n (l + 1) to g M τ la (by omega) (by omega) hn (hI.skip h5) (fun l0 h6 h7 => ⟨fun h8 => (hf l0 h6 h7).1 (by omega), fun h8 => ?_⟩) hq
      by_cases e : l0 = l
      · subst e
        have h9 := (hf l0 h6 h7).1 (Nat.le_refl _)
        refine Or.inr ⟨h9.2, ?_⟩
        rw [← h9.1, el]
        exact (h2.2.gone h5).1
      · exact (hf l0 h6 h7).2 (by omega)
    · rw [el] at h5
      rintro M16 rfl M17 e17
      rw [nI_1, nI_1]
      rw [s_drop_cons_keep h5] at hq
      have eI : mI M17 = mI M := by
        rw [e17]
        rfl
      have eR : mR M17 (f + 1) = va_up (va_up (mR M (f + 1)) l (some (la to))) to (some (la l)) := by
        rw [e17, mR_sR, up2_rowR, mR_sR, up2_rowR]
      have eRo : ∀ c, c ≠ f + 1 → mR M17 c = mR M c := fun c hc => by rw [e17, mR_sR, up2_off _ _ _ hc, mR_sR, up2_off _ _ _ hc]
      refine cl_X1_drop G d hS hnl n (l + 1) (to + 1) _ M17 _ (sw la l to) (by omega) (by omega) (by rw [eI]; exact hn) (hI.keep hto (by omega) h5 eI eR) (fun l0 h6 h7 => ⟨fun h8 => ?_, fun h8 => ?_⟩) (fun M2 la2 h6 h7 h8 => hq M2 la2 ⟨by rw [h6.1, eI], fun c hc => (h6.2 c hc).trans (eRo c hc)⟩ h7 h8)
      · have h9 := (hf l0 h6 h7).1 (by omega)
        have e1 : sw la l to l0 = la l0 := by
          unfold sw
          rw [if_neg (by omega), if_neg (by omega)]
        rw [e1, h7, if_neg (fun q => by have := (nI_inj (by omega) (by omega)).mp q; omega)]
        exact h9
      · by_cases e : l0 = l
        · subst e
          have h9 := (hf l0 h6 h7).1 (Nat.le_refl _)
          rw [if_pos h7.symm]
          exact Or.inl ⟨to, by omega, rfl, (if_pos rfl).trans h9.1⟩
        · rw [h7, if_neg (fun q => by have := (nI_inj (by omega) (by omega)).mp q; omega)]
          rcases (hf l0 h6 h7).2 (by omega) with ⟨j, h9, h10, h11⟩ | ⟨h9, h10⟩
          · refine Or.inl ⟨j, by omega, h10, ?_⟩
            unfold sw
            rw [if_neg (by omega), if_neg (by omega)]
            exact h11
          · exact Or.inr ⟨h9, by rw [eI]; exact h10⟩
/-- the layers that are gone are left out -/
theorem cp_X1_drop (G : Gl) (d : Nat) (X : Sh) (M : Mm) (f nl : Nat) (fol : Int32) (σ : Nat → Int32) (la : Nat → Nat) (hS : Sh1 X f) (hnl : nl ≤ 24) (hF : FR M f σ nl la) (hW : FW σ nl) :
    Cv G m_X1_dropEmptyLayers d [.ref f] X M (fun M2 => ∃ la2, DropQ M f (s_drop fol nl 0 0 (-1) σ).1 M2 ∧ DropI M2 f (s_drop fol nl 0 0 (-1) σ).2.2 nl (s_drop fol nl 0 0 (-1) σ).1 0 la2 ∧ ∀ l0, l0 < nl → fol = nI l0 → Fol M2 la2 (s_drop fol nl 0 0 (-1) σ).1 (s_drop fol nl 0 0 (-1) σ).2.1 (la l0)) := by
  obtain ⟨hP, ⟨d0, d1, d2, d3, d5, d6⟩, hL⟩ := hF
  refine Cv.of (by decide) (Nat.le_of_ble_eq_true rfl) (bX1_dropEmptyLayers_0 hS ?_)
  refine cl_X1_drop G d (fol := fol) (la0 := la) hS hnl nl 0 0 (-1) M σ la (by omega) (Nat.le_refl _) d5 ⟨hP, fun j hj => absurd hj (by omega), fun j _ hj => ⟨hL j (by omega), hW j (by omega)⟩, ⟨d0, d1, d2, d3⟩, fun r hr => ?_⟩ (fun l0 _ _ => ⟨fun _ => ⟨rfl, rfl⟩, fun h => absurd h (by omega)⟩) (fun M2 la2 h1 h2 h3 => ⟨la2, h1, h2, h3⟩)
  rw [d6 r hr]
  exact s_sum_cong (fun k hk => by rw [Nat.zero_add])
