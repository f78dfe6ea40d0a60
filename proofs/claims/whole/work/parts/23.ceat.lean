/-! the class's furnace says what the flat row says -/
/-- where the layers of the furnace at f lie -/
def LPm (M : Mm) (f : Nat) (la : Nat → Nat) : Prop := (∀ l, l < 24 → mR M (f + 1) l = some (la l)) ∧ (∀ l, l < 24 → ∃ j, j < 24 ∧ la l = f + 2 + 2 * j) ∧ ∀ l j, l < 24 → j < 24 → la l = la j → l = j
theorem LPm.at {M : Mm} {f l : Nat} {la : Nat → Nat} (h : LPm M f la) (hl : l < 24) : f + 2 ≤ la l ∧ la l + 1 < f + 50 := by
  obtain ⟨j, h1, h2⟩ := h.2.1 l hl
  omega
theorem LPm.ne {M : Mm} {f l j : Nat} {la : Nat → Nat} (h : LPm M f la) (hl : l < 24) (hj : j < 24) (hn : l ≠ j) : la l ≠ la j ∧ la l + 1 ≠ la j ∧ la l ≠ la j + 1 := by
  obtain ⟨i, h1, h2⟩ := h.2.1 l hl
  obtain ⟨k, h3, h4⟩ := h.2.1 j hj
  have h5 : la l ≠ la j := fun q => hn (h.2.2 l j hl hj q)
  omega
theorem LPm.sh {X : Sh} {M : Mm} {f l : Nat} {la : Nat → Nat} (h : LPm M f la) (hS : Sh1 X f) (hl : l < 24) : Sh4 X (la l) := by
  obtain ⟨j, h1, h2⟩ := h.2.1 l hl
  rw [h2]
  exact sh1_L_layers hS j h1
theorem LPm.lays {X : Sh} {M : Mm} {f nl : Nat} {la : Nat → Nat} (h : LPm M f la) (hS : Sh1 X f) (hnl : nl ≤ 24) : Lays X M f nl la := fun l hl => ⟨h.1 l (by omega), h.sh hS (by omega)⟩
theorem LPm.mR {M M2 : Mm} {f : Nat} {la : Nat → Nat} (h : LPm M f la) (e : mR M2 = mR M) : LPm M2 f la := ⟨fun l hl => by rw [e]; exact h.1 l hl, h.2⟩
/-- the layer at la is the flat row's layer l -/
def LD (M : Mm) (la : Nat) (σ : Nat → Int32) (l : Nat) : Prop :=
  mI M la 0 = σ (60 + 10 * l) ∧ mI M la 1 = σ (61 + 10 * l) ∧ mI M la 2 = σ (62 + 10 * l) ∧ mI M la 3 = f_holds (σ (20 + 5 * (σ (60 + 10 * l)).toNatClampNeg)) ∧ mI M la 4 = s_amt σ l 1 ∧ mI M la 5 = s_amt σ l 2 ∧ mI M la 6 = s_amt σ l 3 ∧ mI M la 7 = σ (63 + 10 * l) ∧ mI M la 8 = σ (63 + 10 * l) - σ (64 + 10 * l) ∧ ∀ r, r < 5 → mI M (la + 1) r = σ (65 + 10 * l + r)
def FD (M : Mm) (f : Nat) (σ : Nat → Int32) (nl : Nat) : Prop := mI M f 0 = σ 5 ∧ mI M f 1 = σ 9 ∧ mI M f 2 = σ 10 ∧ mI M f 3 = σ 11 ∧ mI M f 5 = nI nl ∧ ∀ r, r < 5 → mI M (f + 50) r = s_bulkIn σ r nl
/-- the furnace at f, its layers at la, is the flat row's furnace of nl layers -/
def FR (M : Mm) (f : Nat) (σ : Nat → Int32) (nl : Nat) (la : Nat → Nat) : Prop := LPm M f la ∧ FD M f σ nl ∧ ∀ l, l < nl → LD M (la l) σ l
/-- the flat row's layer l is in order: its words are within their ends, and what is gone and what lies in the rings is the whole -/
def WL (σ : Nat → Int32) (l : Nat) : Prop := ∃ (b k sh t w g : Nat) (ρ : Nat → Nat), b < 6 ∧ k ≤ 5 ∧ sh ≤ 99 ∧ t ≤ 9999 ∧ 1 ≤ w ∧ w ≤ 20000 ∧ σ (60 + 10 * l) = nI b ∧ σ (20 + 5 * b) = nI k ∧ σ (21 + 5 * b) = nI sh ∧ σ (62 + 10 * l) = nI t ∧ σ (63 + 10 * l) = nI w ∧ σ (64 + 10 * l) = nI g ∧ (∀ r, r < 5 → σ (65 + 10 * l + r) = nI (ρ r)) ∧ g + nsum ρ 5 = w
/-- nothing but the furnace's words and layers has changed -/
def Off (f : Nat) (M M2 : Mm) : Prop := (∀ c, c < f ∨ f + 50 < c → mI M2 c = mI M c) ∧ mJ M2 = mJ M ∧ mR M2 = mR M
theorem Off.refl (f : Nat) (M : Mm) : Off f M M := ⟨fun _ _ => rfl, rfl, rfl⟩
theorem Off.trans {f : Nat} {M M2 M3 : Mm} (h : Off f M M2) (h2 : Off f M2 M3) : Off f M M3 := ⟨fun c hc => (h2.1 c hc).trans (h.1 c hc), h2.2.1.trans h.2.1, h2.2.2.trans h.2.2⟩
theorem s_sum_dec {f g : Nat → Int32} {z x : Int32} {i : Nat} (hi : g i = f i - x) (ho : ∀ k, k ≠ i → g k = f k) : ∀ {n : Nat}, i < n → s_sum g z n = s_sum f z n - x
  | 0, h => absurd h (by omega)
  | n + 1, h => by
    show s_sum g z n + g n = s_sum f z n + f n - x
    by_cases e : n = i
    · subst e
      rw [hi, s_sum_cong (f := g) (g := f) (fun k hk => ho k (by omega)), Int32.sub_eq_add_neg, Int32.sub_eq_add_neg, Int32.add_assoc]
    · rw [ho n e, s_sum_dec hi ho (n := n) (by omega), Int32.sub_eq_add_neg, Int32.sub_eq_add_neg]
      ac_rfl
theorem s_amt_cong {σ τ : Nat → Int32} {l j b : Nat} {w : Int32} (hb : σ (60 + 10 * j) = nI b) (hb6 : b < 6) (h0 : τ (60 + 10 * l) = nI b) (h1 : τ (20 + 5 * b) = σ (20 + 5 * b)) (h2 : τ (21 + 5 * b) = σ (21 + 5 * b)) (h3 : τ (62 + 10 * l) = σ (62 + 10 * j)) : s_amt τ l w = s_amt σ j w := by
  unfold s_amt
  rw [hb, h0, nI_clamp (by omega), h1, h2, h3]
/-- a layer's words go over from one row to another -/
theorem LD.move {M M2 : Mm} {a l j b : Nat} {σ τ : Nat → Int32} (h : LD M a σ j) (hb : σ (60 + 10 * j) = nI b) (hb6 : b < 6) (h1 : τ (20 + 5 * b) = σ (20 + 5 * b)) (h2 : τ (21 + 5 * b) = σ (21 + 5 * b)) (hk : ∀ k, k < 10 → τ (60 + 10 * l + k) = σ (60 + 10 * j + k)) (e : mI M2 a = mI M a) (e2 : mI M2 (a + 1) = mI M (a + 1)) : LD M2 a τ l := by
  obtain ⟨p0, p1, p2, p3, p4, p5, p6, p7, p8, p9⟩ := h
  have k0 := hk 0 (by omega)
  have k1 : τ (61 + 10 * l) = σ (61 + 10 * j) := by have := hk 1 (by omega); rw [show 60 + 10 * l + 1 = 61 + 10 * l by omega, show 60 + 10 * j + 1 = 61 + 10 * j by omega] at this; exact this
  have k2 : τ (62 + 10 * l) = σ (62 + 10 * j) := by have := hk 2 (by omega); rw [show 60 + 10 * l + 2 = 62 + 10 * l by omega, show 60 + 10 * j + 2 = 62 + 10 * j by omega] at this; exact this
  have k3 : τ (63 + 10 * l) = σ (63 + 10 * j) := by have := hk 3 (by omega); rw [show 60 + 10 * l + 3 = 63 + 10 * l by omega, show 60 + 10 * j + 3 = 63 + 10 * j by omega] at this; exact this
  have k4 : τ (64 + 10 * l) = σ (64 + 10 * j) := by have := hk 4 (by omega); rw [show 60 + 10 * l + 4 = 64 + 10 * l by omega, show 60 + 10 * j + 4 = 64 + 10 * j by omega] at this; exact this
  have a0 : τ (60 + 10 * l) = nI b := k0.trans hb
  unfold LD
  rw [e, e2, s_amt_cong (w := 1) hb hb6 a0 h1 h2 k2, s_amt_cong (w := 2) hb hb6 a0 h1 h2 k2, s_amt_cong (w := 3) hb hb6 a0 h1 h2 k2, k1, k2, k3, k4, a0, nI_clamp (by omega), h1]
  rw [hb, nI_clamp (by omega)] at p3
  refine ⟨p0.trans hb, p1, p2, p3, p4, p5, p6, p7, p8, fun r hr => ?_⟩
  have := hk (5 + r) (by omega)
  rw [show 60 + 10 * l + (5 + r) = 65 + 10 * l + r by omega, show 60 + 10 * j + (5 + r) = 65 + 10 * j + r by omega] at this
  rw [this]
  exact p9 r hr
theorem sg_9 {σ : Nat → Int32} {l r : Nat} {x : Int32} : s_goes σ l r x 9 = σ 9 + s_inc (s_amt σ l 1) (σ (64 + 10 * l)) (σ (63 + 10 * l)) x := if_pos rfl
theorem sg_10 {σ : Nat → Int32} {l r : Nat} {x : Int32} : s_goes σ l r x 10 = σ 10 + s_inc (s_amt σ l 2) (σ (64 + 10 * l)) (σ (63 + 10 * l)) x := (if_neg (by decide)).trans (if_pos rfl)
theorem sg_11 {σ : Nat → Int32} {l r : Nat} {x : Int32} : s_goes σ l r x 11 = σ 11 + s_inc (s_amt σ l 3) (σ (64 + 10 * l)) (σ (63 + 10 * l)) x := (if_neg (by decide)).trans ((if_neg (by decide)).trans (if_pos rfl))
theorem sg_64 {σ : Nat → Int32} {l r : Nat} {x : Int32} : s_goes σ l r x (64 + 10 * l) = σ (64 + 10 * l) + x := by
  unfold s_goes
  rw [if_neg (by omega), if_neg (by omega), if_neg (by omega), if_pos rfl]
theorem sg_65 {σ : Nat → Int32} {l r : Nat} {x : Int32} (hr : r < 5) : s_goes σ l r x (65 + 10 * l + r) = σ (65 + 10 * l + r) - x := by
  unfold s_goes
  rw [if_neg (by omega), if_neg (by omega), if_neg (by omega), if_neg (by omega), if_pos rfl]
theorem sg_o {σ : Nat → Int32} {l r k : Nat} {x : Int32} (h1 : k < 9 ∨ 11 < k) (h2 : k ≠ 64 + 10 * l) (h3 : k ≠ 65 + 10 * l + r) : s_goes σ l r x k = σ k := by
  unfold s_goes
  rw [if_neg (by omega), if_neg (by omega), if_neg (by omega), if_neg h2, if_neg h3]
theorem sg_bulk {σ : Nat → Int32} {l r nl : Nat} {x : Int32} (hl : l < nl) (hr : r < 5) : s_bulkIn (s_goes σ l r x) r nl = s_bulkIn σ r nl - x := by
  unfold s_bulkIn
  refine s_sum_dec (i := l) (sg_65 hr) (fun k hk => sg_o (by omega) (by omega) (by omega)) hl
theorem sg_bulk_o {σ : Nat → Int32} {l r q nl : Nat} {x : Int32} (hr : r < 5) (hq : q < 5) (hqr : q ≠ r) : s_bulkIn (s_goes σ l r x) q nl = s_bulkIn σ q nl := by
  unfold s_bulkIn
  exact s_sum_cong (fun k hk => sg_o (by omega) (by omega) (by omega))
theorem nsum_dec {f g : Nat → Nat} {x i : Nat} (hi : g i + x = f i) (ho : ∀ k, k ≠ i → g k = f k) : ∀ {n : Nat}, i < n → nsum g n + x = nsum f n
  | 0, h => absurd h (by omega)
  | n + 1, h => by
    show nsum g n + g n + x = nsum f n + f n
    by_cases e : n = i
    · subst e
      rw [nsum_cong (f := g) (g := f) (fun k hk => ho k (by omega))]
      omega
    · rw [ho n e, ← nsum_dec hi ho (n := n) (by omega)]
      omega
theorem nsum_at {f : Nat → Nat} {i : Nat} : ∀ {n : Nat}, i < n → f i ≤ nsum f n
  | 0, h => absurd h (by omega)
  | n + 1, h => by
    show f i ≤ nsum f n + f n
    by_cases e : i = n
    · subst e
      omega
    · have := nsum_at (f := f) (i := i) (n := n) (by omega)
      omega
/-- so much goes of a layer in order: it stays in order, and so do the others -/
theorem WL.goes {σ : Nat → Int32} {l j r x : Nat} (hl : l < 24) (hj : j < 24) (hr : r < 5) (h : WL σ j) (hx : j = l → ∀ y : Nat, y < 2147483648 → σ (65 + 10 * l + r) = nI y → x ≤ y) : WL (s_goes σ l r (nI x)) j := by
  obtain ⟨b, k, sh, t, w, g, ρ, hb, hk, hsh, ht, hw1, hw2, e0, ek, es, et, ew, eg, er, hs⟩ := h
  have ob : ∀ c, c < 2 → s_goes σ l r (nI x) (20 + c + 5 * b) = σ (20 + c + 5 * b) := fun c hc => s_goes_off hl hr (by unfold Fx; omega)
  have o1 : s_goes σ l r (nI x) (20 + 5 * b) = nI k := (s_goes_off hl hr (by unfold Fx; omega)).trans ek
  have o2 : s_goes σ l r (nI x) (21 + 5 * b) = nI sh := (s_goes_off hl hr (by unfold Fx; omega)).trans es
  have o3 : s_goes σ l r (nI x) (60 + 10 * j) = nI b := (s_goes_off hl hr (by unfold Fx; omega)).trans e0
  have o4 : s_goes σ l r (nI x) (62 + 10 * j) = nI t := (s_goes_off hl hr (by unfold Fx; omega)).trans et
  have o5 : s_goes σ l r (nI x) (63 + 10 * j) = nI w := (s_goes_off hl hr (by unfold Fx; omega)).trans ew
  by_cases e : j = l
  · subst e
    have hρ : ρ r ≤ nsum ρ 5 := nsum_at hr
    have h5 := hx rfl (ρ r) (by omega) (er r hr)
    refine ⟨b, k, sh, t, w, g + x, fun q => if q = r then ρ r - x else ρ q, hb, hk, hsh, ht, hw1, hw2, o3, o1, o2, o4, o5, ?_, fun q hq => ?_, ?_⟩
    · rw [sg_64, eg, nI_add]
    · by_cases e2 : q = r
      · subst e2
        rw [sg_65 hq, er q hq, nI_subI _ _ h5]
        exact congrArg nI (if_pos rfl).symm
      · rw [sg_o (by omega) (by omega) (by omega), er q hq]
        exact congrArg nI (if_neg e2).symm
    · have := nsum_dec (f := ρ) (g := fun q => if q = r then ρ r - x else ρ q) (x := x) (i := r) (by simp only [if_true]; omega) (fun k hk => if_neg hk) (n := 5) hr
      omega
  · refine ⟨b, k, sh, t, w, g, ρ, hb, hk, hsh, ht, hw1, hw2, o3, o1, o2, o4, o5, ?_, fun q hq => ?_, hs⟩
    · rw [sg_o (by omega) (by omega) (by omega), eg]
    · rw [sg_o (by omega) (by omega) (by omega), er q hq]
/-- what the class adds to the hearth -/
def br_inc (M : Mm) (a k : Nat) (x : Int32) : Int32 := mI M a k * ((mI M a 7 - mI M a 8) + x) / mI M a 7 - mI M a k * (mI M a 7 - mI M a 8) / mI M a 7
theorem br_inc_eq {M : Mm} {a l k x : Nat} {c : Int32} {σ : Nat → Int32} (hL : LD M a σ l) (hW : WL σ l) (hc : mI M a k = s_amt σ l c) (r : Nat) (hr : r < 5) (hx : ∀ y : Nat, y < 2147483648 → σ (65 + 10 * l + r) = nI y → x ≤ y) : br_inc M a k (nI x) = s_inc (s_amt σ l c) (σ (64 + 10 * l)) (σ (63 + 10 * l)) (nI x) := by
  obtain ⟨b, k2, sh, t, w, g, ρ, hb, hk, hsh, ht, hw1, hw2, e0, ek, es, et, ew, eg, er, hs⟩ := hW
  obtain ⟨p0, p1, p2, p3, p4, p5, p6, p7, p8, p9⟩ := hL
  have hρ : ρ r ≤ nsum ρ 5 := nsum_at hr
  have h5 := hx (ρ r) (by omega) (er r hr)
  have e1 : s_amt σ l c = g_amt (nI k2) (nI sh) (nI t) c := by
    unfold s_amt
    rw [e0, nI_clamp (by omega), ek, es, et]
  obtain ⟨A, hA, e2⟩ := g_amt_n hk hsh ht c
  unfold br_inc
  rw [hc, p7, p8, e1, e2, ew, eg, nI_subI w g (by omega), nI_subI w (w - g) (by omega), inc_eq (A := A) (by omega) (by omega) hw2 hw1, show w - (w - g) = g by omega, nI_add]
theorem bX4_broughtBetween_0 {G : Gl} {d : Nat} {X : Sh} {M : Mm} {Q : Mm → Int32 → Prop} {a : Nat} {x1 : Int32} {x2 : Int32} {x3 : Int32} (hS : Sh4 X a) (h : ((1 ≤ (mI M a 7) → (¬ ((mI M a 7) = 0) ∧ (¬ ((mI M a 7) = 0) ∧ Q M (((x1 * x3) / (mI M a 7)) - ((x1 * x2) / (mI M a 7)))))) ∧ (¬ (1 ≤ (mI M a 7)) → Q M 0))) : Wn G m_X4_broughtBetween d 0 [(0, .ref a), (1, .int x1), (2, .int x2), (3, .int x3)] [] X M Q := by
  refine wp_aload_n 0 dX4_broughtBetween_0 rfl rfl ?_
  refine wp_getI dX4_broughtBetween_1 fl_RX4_37 rfl (sh4_K hS) ?_
  refine wp_iconst (v := 1) dX4_broughtBetween_4 rfl ?_
  refine wp_icmp_ge (tgt := 12) dX4_broughtBetween_5 (by decide) (fun c1 => ?_) (fun c1 => ?_)
  · replace h := h.1 c1
    refine wp_iload_n 1 dX4_broughtBetween_12 rfl rfl ?_
    refine wp_iload_n 3 dX4_broughtBetween_13 rfl rfl ?_
    refine wp_imul dX4_broughtBetween_14 ?_
    refine wp_aload_n 0 dX4_broughtBetween_15 rfl rfl ?_
    refine wp_getI dX4_broughtBetween_16 fl_RX4_37 rfl (sh4_K hS) ?_
    obtain ⟨o2, h⟩ := h
    refine wp_idiv dX4_broughtBetween_19 o2 ?_
    refine wp_iload_n 1 dX4_broughtBetween_20 rfl rfl ?_
    refine wp_iload_n 2 dX4_broughtBetween_21 rfl rfl ?_
    refine wp_imul dX4_broughtBetween_22 ?_
    refine wp_aload_n 0 dX4_broughtBetween_23 rfl rfl ?_
    refine wp_getI dX4_broughtBetween_24 fl_RX4_37 rfl (sh4_K hS) ?_
    obtain ⟨o3, h⟩ := h
    refine wp_idiv dX4_broughtBetween_27 o3 ?_
    refine wp_isub dX4_broughtBetween_28 ?_
    exact wn_iret dX4_broughtBetween_29 rfl h
  · replace h := h.2 c1
    refine wp_iconst (v := 0) dX4_broughtBetween_8 rfl ?_
    refine wp_goto (tgt := 29) dX4_broughtBetween_9 (by decide) ?_
    exact wn_iret dX4_broughtBetween_29 rfl h
theorem bX1_bring_0 {G : Gl} {d : Nat} {X : Sh} {M : Mm} {Q : Mm → Prop} {a : Nat} {b1 : Nat} {x2 : Int32} (hS : Sh1 X a) (hS1 : Sh4 X b1) (h : (∀ v1 : Int32, v1 = ((mI M b1 7) - (mI M b1 8)) → (∀ v2 : Int32, v2 = (v1 + x2) → (∃ q3 : Mm → Int32 → Prop, Cn G m_X4_broughtBetween d [.ref b1, .int ((mI M b1 4)), .int v1, .int v2] X M q3 ∧ ∀ M5 r6, q3 M5 r6 → (∀ M8 : Mm, M8 = sI M5 a 1 ((mI M a 1) + r6) → (∃ q9 : Mm → Int32 → Prop, Cn G m_X4_broughtBetween d [.ref b1, .int ((mI M8 b1 5)), .int v1, .int v2] X M8 q9 ∧ ∀ M11 r12, q9 M11 r12 → (∀ M14 : Mm, M14 = sI M11 a 2 ((mI M8 a 2) + r12) → (∃ q15 : Mm → Int32 → Prop, Cn G m_X4_broughtBetween d [.ref b1, .int ((mI M14 b1 6)), .int v1, .int v2] X M14 q15 ∧ ∀ M17 r18, q15 M17 r18 → (∀ M20 : Mm, M20 = sI M17 a 3 ((mI M14 a 3) + r18) → (∀ M21 : Mm, M21 = sI M20 b1 8 ((mI M20 b1 8) - x2) → Q M21)))))))))) : Wv G m_X1_bring (d + 1) 0 [(0, .ref a), (1, .ref b1), (2, .int x2)] [] X M Q := by
  refine wp_aload_n 1 dX1_bring_0 rfl rfl ?_
  refine wp_getI dX1_bring_1 fl_RX1_126 rfl (sh4_K hS1) ?_
  refine wp_aload_n 1 dX1_bring_4 rfl rfl ?_
  refine wp_getI dX1_bring_5 fl_RX1_129 rfl (sh4_K hS1) ?_
  refine wp_isub dX1_bring_8 ?_
  refine wp_topi (fun v1 ev1 => ?_)
  replace h := h v1 ev1
  refine wp_istore_n (lo2 := [(3, .int _), (0, .ref _), (1, .ref _), (2, .int _)]) dX1_bring_9 rfl (by decide) rfl ?_
  refine wp_iload_n 0 dX1_bring_10 rfl rfl ?_
  refine wp_iload_n 3 dX1_bring_11 rfl rfl ?_
  refine wp_iadd dX1_bring_12 ?_
  refine wp_topi (fun v2 ev2 => ?_)
  replace h := h v2 ev2
  refine wp_istore (lo2 := [(4, .int _), (3, .int _), (0, .ref _), (1, .ref _), (2, .int _)]) dX1_bring_13 (by decide) rfl ?_
  refine wp_aload_n 2 dX1_bring_15 rfl rfl ?_
  refine wp_dup dX1_bring_16 rfl ?_
  refine wp_getI dX1_bring_17 fl_RX1_15 rfl (sh1_K hS) ?_
  refine wp_aload_n 3 dX1_bring_20 rfl rfl ?_
  refine wp_aload_n 3 dX1_bring_21 rfl rfl ?_
  refine wp_getI dX1_bring_22 fl_RX1_114 rfl (sh4_K hS1) ?_
  refine wp_iload_n 1 dX1_bring_25 rfl rfl ?_
  refine wp_iload 0 dX1_bring_26 rfl ?_
  obtain ⟨q3, o4, h⟩ := h
  refine wp_cvi dX1_bring_28 ck_RX1_170 (sh4_K hS1) (as := [.int ((mI M b1 4)), .int v1, .int v2]) rfl rfl (Nat.le_of_ble_eq_true rfl) o4 (fun M5 r6 o7 => ?_)
  replace h := h M5 r6 o7
  refine wp_iadd dX1_bring_31 ?_
  refine wp_putI dX1_bring_32 fp_RX1_15 rfl (sh1_K hS) ?_
  refine wp_nm (fun M8 eM8 => ?_)
  replace h := h M8 eM8
  refine wp_aload_n 2 dX1_bring_35 rfl rfl ?_
  refine wp_dup dX1_bring_36 rfl ?_
  refine wp_getI dX1_bring_37 fl_RX1_18 rfl (sh1_K hS) ?_
  refine wp_aload_n 3 dX1_bring_40 rfl rfl ?_
  refine wp_aload_n 3 dX1_bring_41 rfl rfl ?_
  refine wp_getI dX1_bring_42 fl_RX1_118 rfl (sh4_K hS1) ?_
  refine wp_iload_n 1 dX1_bring_45 rfl rfl ?_
  refine wp_iload 0 dX1_bring_46 rfl ?_
  obtain ⟨q9, o10, h⟩ := h
  refine wp_cvi dX1_bring_48 ck_RX1_170 (sh4_K hS1) (as := [.int ((mI M8 b1 5)), .int v1, .int v2]) rfl rfl (Nat.le_of_ble_eq_true rfl) o10 (fun M11 r12 o13 => ?_)
  replace h := h M11 r12 o13
  refine wp_iadd dX1_bring_51 ?_
  refine wp_putI dX1_bring_52 fp_RX1_18 rfl (sh1_K hS) ?_
  refine wp_nm (fun M14 eM14 => ?_)
  replace h := h M14 eM14
  refine wp_aload_n 2 dX1_bring_55 rfl rfl ?_
  refine wp_dup dX1_bring_56 rfl ?_
  refine wp_getI dX1_bring_57 fl_RX1_21 rfl (sh1_K hS) ?_
  refine wp_aload_n 3 dX1_bring_60 rfl rfl ?_
  refine wp_aload_n 3 dX1_bring_61 rfl rfl ?_
  refine wp_getI dX1_bring_62 fl_RX1_122 rfl (sh4_K hS1) ?_
  refine wp_iload_n 1 dX1_bring_65 rfl rfl ?_
  refine wp_iload 0 dX1_bring_66 rfl ?_
  obtain ⟨q15, o16, h⟩ := h
  refine wp_cvi dX1_bring_68 ck_RX1_170 (sh4_K hS1) (as := [.int ((mI M14 b1 6)), .int v1, .int v2]) rfl rfl (Nat.le_of_ble_eq_true rfl) o16 (fun M17 r18 o19 => ?_)
  replace h := h M17 r18 o19
  refine wp_iadd dX1_bring_71 ?_
  refine wp_putI dX1_bring_72 fp_RX1_21 rfl (sh1_K hS) ?_
  refine wp_nm (fun M20 eM20 => ?_)
  replace h := h M20 eM20
  refine wp_aload_n 3 dX1_bring_75 rfl rfl ?_
  refine wp_dup dX1_bring_76 rfl ?_
  refine wp_getI dX1_bring_77 fl_RX1_129 rfl (sh4_K hS1) ?_
  refine wp_iload_n 4 dX1_bring_80 rfl rfl ?_
  refine wp_isub dX1_bring_81 ?_
  refine wp_putI dX1_bring_82 fp_RX1_129 rfl (sh4_K hS1) ?_
  refine wp_nm (fun M21 eM21 => ?_)
  replace h := h M21 eM21
  exact wv_ret dX1_bring_85 rfl h
theorem cp_X4_broughtBetween (G : Gl) (d : Nat) (X : Sh) (M : Mm) (a : Nat) (y g1 g2 : Int32) (hS : Sh4 X a) (h1 : 1 ≤ mI M a 7) : Cn G m_X4_broughtBetween d [.ref a, .int y, .int g1, .int g2] X M (fun M2 x => M2 = M ∧ x = y * g2 / mI M a 7 - y * g1 / mI M a 7) := by
  have h0 : ¬ mI M a 7 = 0 := fun q => by
    rw [q] at h1
    exact absurd h1 (by decide)
  exact Cn.of (by decide) (Nat.le_of_ble_eq_true rfl) (bX4_broughtBetween_0 hS ⟨fun _ => ⟨h0, h0, rfl, rfl⟩, fun h => absurd h1 h⟩)
def BrQ (M : Mm) (f a : Nat) (x : Int32) (M2 : Mm) : Prop := M2 = sI (sI (sI (sI M f 1 (mI M f 1 + br_inc M a 4 x)) f 2 (mI M f 2 + br_inc M a 5 x)) f 3 (mI M f 3 + br_inc M a 6 x)) a 8 (mI M a 8 - x)
theorem cp_X1_bring (G : Gl) (d : Nat) (hd : 1 ≤ d) (X : Sh) (M : Mm) (f a : Nat) (x : Int32) (hS : Sh1 X f) (hb : Sh4 X a) (ne : a ≠ f) (h1 : 1 ≤ mI M a 7) : Cv G m_X1_bring d [.ref f, .ref a, .int x] X M (BrQ M f a x) := by
  obtain ⟨d, rfl⟩ : ∃ d1, d = d1 + 1 := ⟨d - 1, by omega⟩
  refine Cv.of (by decide) (Nat.le_of_ble_eq_true rfl) (bX1_bring_0 hS hb ?_)
  rintro v1 rfl v2 rfl
  refine ⟨_, cp_X4_broughtBetween G d X M a _ _ _ hb h1, ?_⟩
  rintro M5 r6 ⟨e, e6⟩
  have e := e.symm
  subst e
  intro M8 e8
  have a8 : mI M8 a = mI M a := by rw [e8, mI_sI, up2_off _ _ _ ne]
  refine ⟨_, cp_X4_broughtBetween G d X M8 a _ _ _ hb (by rw [a8]; exact h1), ?_⟩
  rintro M11 r12 ⟨e, e12⟩
  have e := e.symm
  subst e
  intro M14 e14
  have a14 : mI M14 a = mI M a := by rw [e14, mI_sI, up2_off _ _ _ ne, a8]
  refine ⟨_, cp_X4_broughtBetween G d X M14 a _ _ _ hb (by rw [a14]; exact h1), ?_⟩
  rintro M17 r18 ⟨e, e18⟩
  have e := e.symm
  subst e
  intro M20 e20 M21 e21
  rw [a8] at e12
  rw [a14] at e18
  have a20 : mI M20 a = mI M a := by rw [e20, mI_sI, up2_off _ _ _ ne, a14]
  have f2 : mI M8 f 2 = mI M f 2 := by rw [e8, mI_sI, up2_k _ _ _ (by omega)]
  have f3 : mI M14 f 3 = mI M f 3 := by rw [e14, mI_sI, up2_k _ _ _ (by omega), e8, mI_sI, up2_k _ _ _ (by omega)]
  unfold BrQ
  rw [e21, a20, e20, f3, e14, f2, e8, e6, e12, e18]
  rfl
theorem bX1_eat_0 {G : Gl} {d : Nat} {X : Sh} {M : Mm} {Q : Mm → Prop} {a : Nat} {x1 : Int32} {x2 : Int32} (hS : Sh1 X a) (h : Wv G m_X1_eat (d + 1) 5 [(0, .ref a), (1, .int x1), (3, .int x2), (4, .int 0)] [] X M Q) : Wv G m_X1_eat (d + 1) 0 [(0, .ref a), (1, .int x1), (2, .int x2)] [] X M Q := by
  refine wp_iload_n 2 dX1_eat_0 rfl rfl ?_
  refine wp_istore_n (lo2 := [(3, .int _), (0, .ref _), (1, .int _), (2, .int _)]) dX1_eat_1 rfl (by decide) rfl ?_
  refine wp_iconst (v := 0) dX1_eat_2 rfl ?_
  refine wp_istore (lo2 := [(4, .int _), (3, .int _), (0, .ref _), (1, .int _), (2, .int _)]) dX1_eat_3 (by decide) rfl ?_
  exact Wp.sub [2, 3, 1, 0] rfl h
theorem bX1_eat_5 {G : Gl} {d : Nat} {X : Sh} {M : Mm} {Q : Mm → Prop} {a : Nat} {x1 : Int32} {x3 : Int32} {x4 : Int32} (hS : Sh1 X a) (h : (((mI M a 5) ≤ x4 → Q M) ∧ (¬ ((mI M a 5) ≤ x4) → ((x3 ≤ 0 → Q M) ∧ (¬ (x3 ≤ 0) → (∃ j3 : Nat, x4 = nI j3 ∧ j3 < 24 ∧ (∃ la6 : Nat, mR M (a + 1) j3 = some la6 ∧ Sh4 X la6 ∧ (∃ j9 : Nat, x1 = nI j9 ∧ j9 < 5 ∧ (∀ v12 : Int32, v12 = (if (mI M (la6 + 1) j9) < x3 then (mI M (la6 + 1) j9) else x3) → (∃ la13 : Nat, mR M (a + 1) j3 = some la13 ∧ Sh4 X la13 ∧ (∃ q16 : Mm → Prop, Cv G m_X1_bring d [.ref a, .ref la13, .int v12] X M q16 ∧ ∀ M18, q16 M18 → (∃ la20 : Nat, mR M18 (a + 1) j3 = some la20 ∧ Sh4 X la20 ∧ (∀ M23 : Mm, M23 = sI M18 (la20 + 1) j9 ((mI M18 (la20 + 1) j9) - v12) → (∀ M24 : Mm, M24 = sI M23 (a + 50) j9 ((mI M23 (a + 50) j9) - v12) → (∀ v25 : Int32, v25 = (x3 - v12) → Wv G m_X1_eat (d + 1) 5 [(0, .ref a), (1, .int x1), (3, .int v25), (4, .int (x4 + 1))] [] X M24 Q))))))))))))))) : Wv G m_X1_eat (d + 1) 5 [(0, .ref a), (1, .int x1), (3, .int x3), (4, .int x4)] [] X M Q := by
  refine wp_iload 3 dX1_eat_5 rfl ?_
  refine wp_aload_n 0 dX1_eat_7 rfl rfl ?_
  refine wp_getI dX1_eat_8 fl_RX1_31 rfl (sh1_K hS) ?_
  refine wp_icmp_ge (tgt := 88) dX1_eat_11 (by decide) (fun c1 => ?_) (fun c1 => ?_)
  · replace h := h.1 c1
    exact wv_ret dX1_eat_88 rfl h
  · replace h := h.2 c1
    refine wp_iload_n 2 dX1_eat_14 rfl rfl ?_
    refine wp_if_le (tgt := 88) dX1_eat_15 (by decide) (fun c2 => ?_) (fun c2 => ?_)
    · replace h := h.1 c2
      exact wv_ret dX1_eat_88 rfl h
    · replace h := h.2 c2
      refine wp_iload_n 2 dX1_eat_18 rfl rfl ?_
      refine wp_aload_n 0 dX1_eat_19 rfl rfl ?_
      refine wp_getR dX1_eat_20 fl_RX1_26 rfl (sh1_K hS) (sh1_F_layers hS) ?_
      refine wp_iload 3 dX1_eat_23 rfl ?_
      obtain ⟨j3, o4, o5, h⟩ := h
      obtain ⟨la6, o7, o8, h⟩ := h
      refine wp_rald (n := 24) dX1_eat_25 (sh1_K_layers hS) (sh1_N_layers hS) (by decide) o4 o5 o7 ?_
      refine wp_getR dX1_eat_26 fl_RX1_74 rfl (sh4_K o8) (sh4_F_inRing o8) ?_
      refine wp_iload_n 1 dX1_eat_29 rfl rfl ?_
      obtain ⟨j9, o10, o11, h⟩ := h
      refine wp_iald (n := 5) dX1_eat_30 (sh4_K_inRing o8) (sh4_N_inRing o8) (by decide) o10 o11 ?_
      refine wp_mmin dX1_eat_31 ml_RX1_163 ms_min mi_Math mc_min (Nat.le_of_ble_eq_true rfl) (Nat.le_refl _) (Nat.le_refl _) ?_
      refine wp_topi (fun v12 ev12 => ?_)
      replace h := h v12 ev12
      refine wp_istore (lo2 := [(5, .int _), (0, .ref _), (1, .int _), (3, .int _), (4, .int _)]) dX1_eat_34 (by decide) rfl ?_
      refine wp_aload_n 1 dX1_eat_36 rfl rfl ?_
      refine wp_aload_n 1 dX1_eat_37 rfl rfl ?_
      refine wp_getR dX1_eat_38 fl_RX1_26 rfl (sh1_K hS) (sh1_F_layers hS) ?_
      refine wp_iload 4 dX1_eat_41 rfl ?_
      obtain ⟨la13, o14, o15, h⟩ := h
      refine wp_rald (n := 24) dX1_eat_43 (sh1_K_layers hS) (sh1_N_layers hS) (by decide) o4 o5 o14 ?_
      refine wp_iload 0 dX1_eat_44 rfl ?_
      obtain ⟨q16, o17, h⟩ := h
      refine wp_cvv dX1_eat_46 ck_RX1_166 (sh1_K hS) (as := [.ref la13, .int v12]) rfl rfl (Nat.le_of_ble_eq_true rfl) o17 (fun M18 o19 => ?_)
      replace h := h M18 o19
      refine wp_aload_n 1 dX1_eat_49 rfl rfl ?_
      refine wp_getR dX1_eat_50 fl_RX1_26 rfl (sh1_K hS) (sh1_F_layers hS) ?_
      refine wp_iload 4 dX1_eat_53 rfl ?_
      obtain ⟨la20, o21, o22, h⟩ := h
      refine wp_rald (n := 24) dX1_eat_55 (sh1_K_layers hS) (sh1_N_layers hS) (by decide) o4 o5 o21 ?_
      refine wp_getR dX1_eat_56 fl_RX1_74 rfl (sh4_K o22) (sh4_F_inRing o22) ?_
      refine wp_iload_n 2 dX1_eat_59 rfl rfl ?_
      refine wp_dup2_11 dX1_eat_60 rfl rfl ?_
      refine wp_iald (n := 5) dX1_eat_61 (sh4_K_inRing o22) (sh4_N_inRing o22) (by decide) o10 o11 ?_
      refine wp_iload 0 dX1_eat_62 rfl ?_
      refine wp_isub dX1_eat_64 ?_
      refine wp_iast (n := 5) dX1_eat_65 (sh4_K_inRing o22) (sh4_N_inRing o22) (by decide) o10 o11 ?_
      refine wp_nm (fun M23 eM23 => ?_)
      replace h := h M23 eM23
      refine wp_aload_n 1 dX1_eat_66 rfl rfl ?_
      refine wp_getR dX1_eat_67 fl_RX1_34 rfl (sh1_K hS) (sh1_F_bulk hS) ?_
      refine wp_iload_n 2 dX1_eat_70 rfl rfl ?_
      refine wp_dup2_11 dX1_eat_71 rfl rfl ?_
      refine wp_iald (n := 5) dX1_eat_72 (sh1_K_bulk hS) (sh1_N_bulk hS) (by decide) o10 o11 ?_
      refine wp_iload 0 dX1_eat_73 rfl ?_
      refine wp_isub dX1_eat_75 ?_
      refine wp_iast (n := 5) dX1_eat_76 (sh1_K_bulk hS) (sh1_N_bulk hS) (by decide) o10 o11 ?_
      refine wp_nm (fun M24 eM24 => ?_)
      replace h := h M24 eM24
      refine wp_iload_n 3 dX1_eat_77 rfl rfl ?_
      refine wp_iload 0 dX1_eat_78 rfl ?_
      refine wp_isub dX1_eat_80 ?_
      refine wp_topi (fun v25 ev25 => ?_)
      replace h := h v25 ev25
      refine wp_istore_n (lo2 := [(3, .int _), (5, .int _), (0, .ref _), (1, .int _), (4, .int _)]) dX1_eat_81 rfl (by decide) rfl ?_
      refine wp_iinc (v := x4 + 1) (lo2 := [(4, .int _), (3, .int _), (5, .int _), (0, .ref _), (1, .int _)]) dX1_eat_82 (q := 4) rfl rfl (by decide) rfl ?_
      refine wp_goto (tgt := 5) dX1_eat_85 (by decide) ?_
      exact Wp.sub [3, 4, 1, 0] rfl h
theorem FR.goes {M Mb M2 : Mm} {f nl i r x : Nat} {σ : Nat → Int32} {la : Nat → Nat} (h : FR M f σ nl la) (hnl : nl ≤ 24) (hi : i < nl) (hr : r < 5) (hW : ∀ l, l < nl → WL σ l) (hx : ∀ y : Nat, y < 2147483648 → σ (65 + 10 * i + r) = nI y → x ≤ y)
    (eb : BrQ M f (la i) (nI x) Mb) (e2 : M2 = sI (sI Mb (la i + 1) r (mI Mb (la i + 1) r - nI x)) (f + 50) r (mI (sI Mb (la i + 1) r (mI Mb (la i + 1) r - nI x)) (f + 50) r - nI x)) : FR M2 f (s_goes σ i r (nI x)) nl la ∧ Off f M M2 := by
  obtain ⟨hP, hD, hL⟩ := h
  have ai := hP.at (l := i) (by omega)
  have bb : ∀ c, c ≠ f → c ≠ la i → mI Mb c = mI M c := fun c h1 h2 => by
    rw [eb]
    simp only [mI_sI, up2_off _ _ _ h1, up2_off _ _ _ h2]
  have m2 : ∀ c, c ≠ f + 50 → c ≠ la i + 1 → mI M2 c = mI Mb c := fun c h1 h2 => by
    rw [e2]
    simp only [mI_sI, up2_off _ _ _ h1, up2_off _ _ _ h2]
  have r50 : mI M2 (f + 50) = upd (mI M (f + 50)) r (mI M (f + 50) r - nI x) := by
    rw [e2, mI_sI, up2_row, mI_sI, up2_off _ _ _ (show f + 50 ≠ la i + 1 by omega), bb _ (by omega) (by omega)]
  have r1 : mI M2 (la i + 1) = upd (mI M (la i + 1)) r (mI M (la i + 1) r - nI x) := by
    rw [e2, mI_sI, up2_off _ _ _ (show la i + 1 ≠ f + 50 by omega), mI_sI, up2_row, bb _ (by omega) (by omega)]
  have rl : mI M2 (la i) = upd (mI M (la i)) 8 (mI M (la i) 8 - nI x) := by
    rw [m2 _ (by omega) (by omega), eb, mI_sI, up2_row]
    simp only [mI_sI, up2_off _ _ _ (show la i ≠ f by omega)]
  have rf : mI M2 f = upd (upd (upd (mI M f) 1 (mI M f 1 + br_inc M (la i) 4 (nI x))) 2 (mI M f 2 + br_inc M (la i) 5 (nI x))) 3 (mI M f 3 + br_inc M (la i) 6 (nI x)) := by
    rw [m2 _ (by omega) (by omega), eb, mI_sI, up2_off _ _ _ (show f ≠ la i by omega)]
    simp only [mI_sI, up2_row]
  have eR : mR M2 = mR M := by
    rw [e2, eb]
    rfl
  have hLi := hL i hi
  have hWi := hW i hi
  obtain ⟨d0, d1, d2, d3, d5, d6⟩ := hD
  have i4 := br_inc_eq (k := 4) (c := 1) hLi hWi hLi.2.2.2.2.1 r hr hx
  have i5 := br_inc_eq (k := 5) (c := 2) hLi hWi hLi.2.2.2.2.2.1 r hr hx
  have i6 := br_inc_eq (k := 6) (c := 3) hLi hWi hLi.2.2.2.2.2.2.1 r hr hx
  refine ⟨⟨hP.mR eR, ⟨?_, ?_, ?_, ?_, ?_, fun q hq => ?_⟩, fun l hl => ?_⟩, ⟨fun c hc => ?_, ?_, eR⟩⟩
  · rw [rf, sg_o (by omega) (by omega) (by omega)]
    exact d0
  · rw [rf, sg_9, ← i4, ← d1]
    rfl
  · rw [rf, sg_10, ← i5, ← d2]
    rfl
  · rw [rf, sg_11, ← i6, ← d3]
    rfl
  · rw [rf]
    exact d5
  · rw [r50]
    unfold upd
    by_cases e : q = r
    · subst e
      rw [if_pos rfl, d6 q hq, sg_bulk hi hq]
    · rw [if_neg e, d6 q hq, sg_bulk_o hr hq e]
  · by_cases e : l = i
    · subst e
      obtain ⟨b, k, sh, t, w, g, ρ, hb, hk, hsh, ht, hw1, hw2, e0, ek, es, et, ew, eg, er, hs⟩ := hWi
      obtain ⟨p0, p1, p2, p3, p4, p5, p6, p7, p8, p9⟩ := hLi
      have ob : ∀ c, Fx c → s_goes σ l r (nI x) c = σ c := fun c hc => s_goes_off (by omega) hr hc
      have sa : ∀ c, s_amt (s_goes σ l r (nI x)) l c = s_amt σ l c := fun c => s_amt_cong e0 hb ((ob _ (by unfold Fx; omega)).trans e0) (ob _ (by unfold Fx; omega)) (ob _ (by unfold Fx; omega)) (ob _ (by unfold Fx; omega))
      unfold LD
      rw [rl, r1, sa, sa, sa, ob (60 + 10 * l) (by unfold Fx; omega), ob (61 + 10 * l) (by unfold Fx; omega), ob (62 + 10 * l) (by unfold Fx; omega), ob (63 + 10 * l) (by unfold Fx; omega), sg_64, e0, nI_clamp (by omega), ob (20 + 5 * b) (by unfold Fx; omega)]
      rw [e0, nI_clamp (by omega)] at p3
      refine ⟨p0.trans e0, p1, p2, p3, p4, p5, p6, p7, ?_, fun q hq => ?_⟩
      · show mI M (la l) 8 - nI x = _
        rw [p8, Int32.sub_eq_add_neg, Int32.sub_eq_add_neg, Int32.sub_eq_add_neg, Int32.neg_add]
        simp only [Int32.sub_eq_add_neg]
        ac_rfl
      · unfold upd
        by_cases e3 : q = r
        · subst e3
          rw [if_pos rfl, p9 q hq, sg_65 hq]
        · rw [if_neg e3, p9 q hq, sg_o (by omega) (by omega) (by omega)]
    · have ne := hP.ne (l := l) (j := i) (by omega) (by omega) e
      have al := hP.at (l := l) (by omega)
      obtain ⟨b, k, sh, t, w, g, ρ, hb, hk, hsh, ht, hw1, hw2, e0, _⟩ := hW l hl
      refine LD.move (hL l hl) e0 hb (s_goes_off (by omega) hr (by unfold Fx; omega)) (s_goes_off (by omega) hr (by unfold Fx; omega)) (fun k hk => sg_o (by omega) (by omega) (by omega)) ?_ ?_
      · rw [m2 _ (by omega) (by omega), bb _ (by omega) (by omega)]
      · rw [m2 _ (by omega) (by omega), bb _ (by omega) (by omega)]
  · rw [m2 _ (by omega) (by omega), bb _ (by omega) (by omega)]
  · rw [e2, eb]
    rfl
theorem WL.takes {σ : Nat → Int32} {i r : Nat} {e : Int32} (h : WL σ i) (hr : r < 5) (he : ¬ e ≤ 0) : ∃ x : Nat, s_takes σ i r e = nI x ∧ ∀ y : Nat, y < 2147483648 → σ (65 + 10 * i + r) = nI y → x ≤ y := by
  obtain ⟨b, k, sh, t, w, g, ρ, hb, hk, hsh, ht, hw1, hw2, e0, ek, es, et, ew, eg, er, hs⟩ := h
  have hρ : ρ r ≤ nsum ρ 5 := nsum_at hr
  obtain ⟨z, hz, rfl⟩ := nI_of (x := e) (i_nlt.mpr (Int32.le_of_lt (i_nle.mp he)))
  unfold s_takes
  rw [er r hr]
  by_cases h2 : nI (ρ r) ≤ nI z
  · rw [if_pos h2]
    refine ⟨ρ r, rfl, fun y hy h3 => ?_⟩
    have := (nI_inj (a := ρ r) (b := y) (by omega) hy).mp h3
    omega
  · rw [if_neg h2]
    refine ⟨z, rfl, fun y hy h3 => ?_⟩
    have h4 := (nI_inj (a := ρ r) (b := y) (by omega) hy).mp h3
    have h5 := (nI_ltI (by omega) (by omega)).mp (i_nle.mp h2)
    omega
/-- a furnace in order -/
def FW (σ : Nat → Int32) (nl : Nat) : Prop := ∀ l, l < nl → WL σ l
theorem takes_eq {σ : Nat → Int32} {i r : Nat} {e : Int32} : (if σ (65 + 10 * i + r) < e then σ (65 + 10 * i + r) else e) = s_takes σ i r e := by
  unfold s_takes
  by_cases h : σ (65 + 10 * i + r) < e
  · rw [if_pos h, if_pos (Int32.le_of_lt h)]
  · rw [if_neg h]
    by_cases h2 : σ (65 + 10 * i + r) ≤ e
    · rw [if_pos h2]
      exact Int32.le_antisymm (i_nlt.mp h) h2
    · rw [if_neg h2]
theorem cl_X1_eat (G : Gl) (d : Nat) (hd : 1 ≤ d) {X : Sh} {f nl r : Nat} {la : Nat → Nat} {Q : Mm → Prop} (hS : Sh1 X f) (hnl : nl ≤ 24) (hr : r < 5) :
    ∀ (n i : Nat) (e : Int32) (M : Mm) (σ : Nat → Int32), i + n = nl → FR M f σ nl la → FW σ nl → (∀ M2, FR M2 f (s_eat r n i e σ) nl la → FW (s_eat r n i e σ) nl → Off f M M2 → Q M2) → Wv G m_X1_eat (d + 1) 5 [(0, .ref f), (1, .int (nI r)), (3, .int e), (4, .int (nI i))] [] X M Q
  | 0, i, e, M, σ, h, hF, hW, hq => by
    have hi : i = nl := h
    subst hi
    exact bX1_eat_5 hS ⟨fun _ => hq M hF hW (Off.refl _ _), fun h => absurd (by rw [hF.2.1.2.2.2.2.1]; exact Int32.le_refl _) h⟩
  | n + 1, i, e, M, σ, h, hF, hW, hq => by
    have hLi := hF.2.2 i (by omega)
    have hP := hF.1
    have ai := hP.at (l := i) (by omega)
    refine bX1_eat_5 hS ⟨fun h2 => ?_, fun _ => ⟨fun h2 => ?_, fun h2 => ⟨i, rfl, by omega, la i, hP.1 i (by omega), hP.sh hS (by omega), r, rfl, hr, ?_⟩⟩⟩
    · rw [hF.2.1.2.2.2.2.1] at h2
      have := (nI_leI (by omega) (by omega)).mp h2
      omega
    · have e2 : s_eat r (n + 1) i e σ = σ := if_pos h2
      rw [e2] at hq
      exact hq M hF hW (Off.refl _ _)
    · intro v12 e12
      rw [hLi.2.2.2.2.2.2.2.2.2 r hr, takes_eq] at e12
      have e2 : s_eat r (n + 1) i e σ = s_eat r n (i + 1) (e - s_takes σ i r e) (s_goes σ i r (s_takes σ i r e)) := if_neg h2
      rw [e2] at hq
      obtain ⟨x, hx, hxy⟩ := (hW i (by omega)).takes hr h2
      rw [hx] at e12 hq
      subst e12
      have h17 : 1 ≤ mI M (la i) 7 := by
        obtain ⟨b, k, sh, t, w, g, ρ, hb, hk, hsh, ht, hw1, hw2, e0, ek, es, et, ew, _⟩ := hW i (by omega)
        rw [hLi.2.2.2.2.2.2.2.1, ew]
        exact (nI_leI (a := 1) (by omega) (by omega)).mpr hw1
      refine ⟨la i, hP.1 i (by omega), hP.sh hS (by omega), _, cp_X1_bring G d hd X M f (la i) (nI x) hS (hP.sh hS (by omega)) (by omega) h17, ?_⟩
      intro M18 e18
      have eR : mR M18 = mR M := by
        rw [e18]
        rfl
      refine ⟨la i, by rw [eR]; exact hP.1 i (by omega), hP.sh hS (by omega), ?_⟩
      intro M23 e23 M24 e24 v25 e25
      subst e25
      rw [nI_1]
      rw [e23] at e24
      have hg := hF.goes hnl (by omega) hr hW hxy e18 e24
      exact cl_X1_eat G d hd hS hnl hr n (i + 1) _ M24 _ (by omega) hg.1 (fun l hl => (hW l hl).goes (by omega) (by omega) hr (fun q => by rw [← q] at hxy; exact fun y => by rw [← q]; exact hxy y)) (fun M2 h3 h4 h5 => hq M2 h3 h4 (hg.2.trans h5))
theorem cp_X1_eat (G : Gl) (d : Nat) (hd : 2 ≤ d) (X : Sh) (M : Mm) (f nl r : Nat) (e : Int32) (σ : Nat → Int32) (la : Nat → Nat) (hS : Sh1 X f) (hnl : nl ≤ 24) (hr : r < 5) (hF : FR M f σ nl la) (hW : FW σ nl) : Cv G m_X1_eat d [.ref f, .int (nI r), .int e] X M (fun M2 => FR M2 f (s_eat r nl 0 e σ) nl la ∧ FW (s_eat r nl 0 e σ) nl ∧ Off f M M2) := by
  obtain ⟨d, rfl⟩ : ∃ d1, d = d1 + 1 := ⟨d - 1, by omega⟩
  refine Cv.of (by decide) (Nat.le_of_ble_eq_true rfl) (bX1_eat_0 hS ?_)
  exact cl_X1_eat G d (by omega) hS hnl hr nl 0 e M σ (by omega) hF hW (fun M2 h1 h2 h3 => ⟨h1, h2, h3⟩)
