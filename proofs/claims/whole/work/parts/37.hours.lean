/-! calls: bin, run -/
theorem case_bin (G : Gl) (d : Nat) (hd : 16 ≤ d) (X : Sh) (b m : Nat) (hS : Sh9 X b) (hM : Sh10 X m) (hbm : b + 266 ≤ m) (x1 x2 x3 : Int32) : Case G d X b m m_X10_bin m_X11_bin [.int x1, .int x2, .int x3] := by
  obtain ⟨d, rfl⟩ : ∃ d1, d = d1 + 1 := ⟨d - 1, by omega⟩
  intro M hs
  obtain ⟨⟨nb, nl, nx, nt, nd, la, hh⟩, hr⟩ := id hs
  obtain ⟨hW, hB, hF, hT, hD, hR⟩ := id hh
  obtain ⟨w0, w1, w2, w3, w4, w5, w6, w7, w8, w9, wb, wf, wl, wt, wd, ws⟩ := id hW
  have hS0 := sh2_S_bins (sh9_S_house hS)
  by_cases h : 0 ≤ x1 ∧ x1 ≤ 5
  · by_cases h2 : 0 ≤ x2 ∧ x2 ≤ 9999
    · by_cases h3 : 0 ≤ x3 ∧ x3 ≤ 9999
      · obtain ⟨k, hk, rfl⟩ := ix_le (nb := 5) (by omega) h.1 h.2
        obtain ⟨p, hp, rfl⟩ := ix_le (nb := 9999) (by omega) h2.1 h2.2
        obtain ⟨t, ht, rfl⟩ := ix_le (nb := 9999) (by omega) h3.1 h3.2
        by_cases hn : nb < 6
        · have l6 : mI M (b + 1 + 1) 5 < 6 := by
            rw [hB.1]
            exact (nI_ltI (b := 6) (by omega) (by omega)).mpr hn
          have n6 : ¬ mI M (m + 1) 0 = 6 := fun q => by
            rw [w0] at q
            have := (nI_inj (b := 6) (by omega) (by omega)).mp q
            omega
          refine Cn.of (by decide) (Nat.le_of_ble_eq_true rfl) (bX10_bin_0 hS (by omega) ⟨fun q => absurd h q, fun _ => ⟨fun q => absurd h2 q, fun _ => ⟨fun _ => ⟨_, Cn.of (by decide) (Nat.le_of_ble_eq_true rfl) (bX0_add_0 (Q := fun M2 r => M2 = sI (sI (sI (sI (sI (sI M (b + 1 + 1 + 1) nb (nI k)) (b + 1 + 1 + 2) nb (nI p / 100)) (b + 1 + 1 + 3) nb (nI p - nI p / 100 * 100)) (b + 1 + 1 + 4) nb (nI t)) (b + 1 + 1 + 5) nb 22222) (b + 1 + 1) 5 (nI (nb + 1)) ∧ r = nI nb) hS0 ⟨fun _ => ?_, fun q => absurd l6 q⟩), ?_⟩, fun q => absurd h3 q⟩⟩⟩)
          · rintro v2 e2
            refine ⟨nb, e2.trans hB.1, hn, ?_⟩
            rintro M6 rfl M7 rfl M8 rfl M9 rfl M10 e10 M11 e11
            have v : mI M10 (b + 1 + 1) 5 = nI nb := by
              rw [e10]
              simp only [mI_sI, up2_off _ _ _ (show b + 1 + 1 ≠ b + 1 + 1 + 1 by omega), up2_off _ _ _ (show b + 1 + 1 ≠ b + 1 + 1 + 2 by omega), up2_off _ _ _ (show b + 1 + 1 ≠ b + 1 + 1 + 3 by omega), up2_off _ _ _ (show b + 1 + 1 ≠ b + 1 + 1 + 4 by omega), up2_off _ _ _ (show b + 1 + 1 ≠ b + 1 + 1 + 5 by omega)]
              exact hB.1
            rw [v, nI_1, e10] at e11
            exact ⟨e11, e2.trans hB.1⟩
          · rintro M10 r11 ⟨e10, rfl⟩
            have m10 : ∀ c, c < b + 2 ∨ b + 7 < c → mI M10 c = mI M c := fun c h1 => by rw [e10, mI_sI, up2_off _ _ _ (by omega), mI_sI, up2_off _ _ _ (by omega), mI_sI, up2_off _ _ _ (by omega), mI_sI, up2_off _ _ _ (by omega), mI_sI, up2_off _ _ _ (by omega), mI_sI, up2_off _ _ _ (by omega)]
            have s10 : mI M10 (m + 1) = mI M (m + 1) := m10 _ (by omega)
            have z10 : mI M10 (m + 1) 0 = nI nb := by rw [s10, w0]
            refine Cn.of (by decide) (Nat.le_of_ble_eq_true rfl) (bX11_bin_0 hM ⟨fun q => absurd h q, fun _ => ⟨fun q => absurd h2 q, fun _ => ⟨fun _ => ⟨fun _ => ?_, fun q => absurd (by rw [s10] at q; exact q) n6⟩, fun q => absurd h3 q⟩⟩⟩)
            intro v5 e5
            rw [z10] at e5
            refine ⟨20 + 5 * nb, by rw [e5]; exact (by first | rfl | (simp only [n_lit, nI_add, pk_mul]; done) | (simp only [n_lit, nI_add, pk_mul]; exact congrArg nI (by omega))), by omega, ?_⟩
            intro M9 e9
            refine ⟨21 + 5 * nb, by rw [e5]; exact (by first | rfl | (simp only [n_lit, nI_add, pk_mul]; done) | (simp only [n_lit, nI_add, pk_mul]; exact congrArg nI (by omega))), by omega, ?_⟩
            intro M13 e13
            refine ⟨22 + 5 * nb, by rw [e5]; exact (by first | rfl | (simp only [n_lit, nI_add, pk_mul]; done) | (simp only [n_lit, nI_add, pk_mul]; exact congrArg nI (by omega))), by omega, ?_⟩
            intro M17 e17
            refine ⟨23 + 5 * nb, by rw [e5]; exact (by first | rfl | (simp only [n_lit, nI_add, pk_mul]; done) | (simp only [n_lit, nI_add, pk_mul]; exact congrArg nI (by omega))), by omega, ?_⟩
            intro M21 e21
            refine ⟨24 + 5 * nb, by rw [e5]; exact (by first | rfl | (simp only [n_lit, nI_add, pk_mul]; done) | (simp only [n_lit, nI_add, pk_mul]; exact congrArg nI (by omega))), by omega, ?_⟩
            intro M25 e25 M26 e26
            have z25 : mI M25 (m + 1) 0 = nI nb := by
              rw [e25, mI_sI, up2_k _ _ _ (by omega), e21, mI_sI, up2_k _ _ _ (by omega), e17, mI_sI, up2_k _ _ _ (by omega), e13, mI_sI, up2_k _ _ _ (by omega), e9, mI_sI, up2_k _ _ _ (by omega), z10]
            rw [z25, nI_1] at e26
            have m26 : ∀ c, c ≠ m + 1 → mI M26 c = mI M10 c := fun c hc => by rw [e26, mI_sI, up2_off _ _ _ hc, e25, mI_sI, up2_off _ _ _ hc, e21, mI_sI, up2_off _ _ _ hc, e17, mI_sI, up2_off _ _ _ hc, e13, mI_sI, up2_off _ _ _ hc, e9, mI_sI, up2_off _ _ _ hc]
            have s26 : mI M26 (m + 1) = s_bin (mI M (m + 1)) nb (nI k) (nI p) (nI t) := by
              rw [e26, mI_sI, up2_row, e25, mI_sI, up2_row, e21, mI_sI, up2_row, e17, mI_sI, up2_row, e13, mI_sI, up2_row, e9, mI_sI, up2_row, s10]
              rfl
            have R26 : mR M26 = mR M := by
              rw [e26, e25, e21, e17, e13, e9, e10]
              rfl
            refine ⟨by rw [s26]; exact (nI_pred nb).symm, ⟨nb + 1, nl, nx, nt, nd, la, ?_⟩, hr.house hbm (fun c h4 h5 => by rw [m26 _ h5, m10 _ (by omega)]) (fun c _ => by rw [R26])⟩
            rw [s26]
            refine hh.bin hn hk hp ht ?_ ?_ ?_ ?_ ?_ ?_ ?_ ?_ (fun c h4 h5 => by rw [m26 _ (by omega), m10 _ (by omega)]) (by rw [R26])
            · rw [m26 _ (by omega), e10, mI_sI, up2_same]
            · rw [m26 _ (by omega), e10, mI_sI, up2_k _ _ _ (by omega), mI_sI, up2_off _ _ _ (by omega), mI_sI, up2_off _ _ _ (by omega), mI_sI, up2_off _ _ _ (by omega), mI_sI, up2_off _ _ _ (by omega), mI_sI, up2_off _ _ _ (by omega)]
            · rw [m26 _ (by omega), e10, mI_sI, up2_off _ _ _ (by omega), mI_sI, up2_off _ _ _ (by omega), mI_sI, up2_off _ _ _ (by omega), mI_sI, up2_off _ _ _ (by omega), mI_sI, up2_off _ _ _ (by omega), mI_sI, up2_row]
            · rw [m26 _ (by omega), e10, mI_sI, up2_off _ _ _ (by omega), mI_sI, up2_off _ _ _ (by omega), mI_sI, up2_off _ _ _ (by omega), mI_sI, up2_off _ _ _ (by omega), mI_sI, up2_row, mI_sI, up2_off _ _ _ (by omega)]
            · rw [m26 _ (by omega), e10, mI_sI, up2_off _ _ _ (by omega), mI_sI, up2_off _ _ _ (by omega), mI_sI, up2_off _ _ _ (by omega), mI_sI, up2_row, mI_sI, up2_off _ _ _ (by omega), mI_sI, up2_off _ _ _ (by omega)]
            · rw [m26 _ (by omega), e10, mI_sI, up2_off _ _ _ (by omega), mI_sI, up2_off _ _ _ (by omega), mI_sI, up2_row, mI_sI, up2_off _ _ _ (by omega), mI_sI, up2_off _ _ _ (by omega), mI_sI, up2_off _ _ _ (by omega)]
            · rw [m26 _ (by omega), e10, mI_sI, up2_off _ _ _ (by omega), mI_sI, up2_row, mI_sI, up2_off _ _ _ (by omega), mI_sI, up2_off _ _ _ (by omega), mI_sI, up2_off _ _ _ (by omega), mI_sI, up2_off _ _ _ (by omega)]
            · rw [m26 _ (by omega), m10 _ (by omega)]
        · have l6 : ¬ mI M (b + 1 + 1) 5 < 6 := fun q => by
            rw [hB.1] at q
            exact hn ((nI_ltI (b := 6) (by omega) (by omega)).mp q)
          have n6 : mI M (m + 1) 0 = 6 := by
            rw [w0]
            exact congrArg nI (show nb = 6 by omega)
          refine Cn.of (by decide) (Nat.le_of_ble_eq_true rfl) (bX10_bin_0 hS (by omega) ⟨fun q => absurd h q, fun _ => ⟨fun q => absurd h2 q, fun _ => ⟨fun _ => ⟨_, Cn.of (by decide) (Nat.le_of_ble_eq_true rfl) (bX0_add_0 (Q := fun M2 r => M2 = M ∧ r = -1000000003) hS0 ⟨fun q => absurd q l6, fun _ => ⟨rfl, rfl⟩⟩), ?_⟩, fun q => absurd h3 q⟩⟩⟩)
          rintro M10 r11 ⟨e10, rfl⟩
          have e10 := e10.symm
          subst e10
          exact Cn.of (by decide) (Nat.le_of_ble_eq_true rfl) (bX11_bin_0 hM ⟨fun q => absurd h q, fun _ => ⟨fun q => absurd h2 q, fun _ => ⟨fun _ => ⟨fun q => absurd n6 q, fun _ => ⟨rfl, hs⟩⟩, fun q => absurd h3 q⟩⟩⟩)
      · exact Cn.of (by decide) (Nat.le_of_ble_eq_true rfl) (bX10_bin_0 hS (by omega) ⟨fun q => absurd h q, fun _ => ⟨fun q => absurd h2 q, fun _ => ⟨fun q => absurd q h3, fun _ => Cn.of (by decide) (Nat.le_of_ble_eq_true rfl) (bX11_bin_0 hM ⟨fun q => absurd h q, fun _ => ⟨fun q => absurd h2 q, fun _ => ⟨fun q => absurd q h3, fun _ => ⟨rfl, hs⟩⟩⟩⟩)⟩⟩⟩)
    · exact Cn.of (by decide) (Nat.le_of_ble_eq_true rfl) (bX10_bin_0 hS (by omega) ⟨fun q => absurd h q, fun _ => ⟨fun _ => Cn.of (by decide) (Nat.le_of_ble_eq_true rfl) (bX11_bin_0 hM ⟨fun q => absurd h q, fun _ => ⟨fun _ => ⟨rfl, hs⟩, fun q => absurd q h2⟩⟩), fun q => absurd q h2⟩⟩)
  · exact Cn.of (by decide) (Nat.le_of_ble_eq_true rfl) (bX10_bin_0 hS (by omega) ⟨fun _ => Cn.of (by decide) (Nat.le_of_ble_eq_true rfl) (bX11_bin_0 hM ⟨fun _ => ⟨rfl, hs⟩, fun q => absurd q h⟩), fun q => absurd q h⟩)
/-! hours -/
theorem drop_fol (fol fol2 : Int32) : ∀ (n l to : Nat) (g g2 : Int32) (σ : Nat → Int32), (s_drop fol n l to g σ).1 = (s_drop fol2 n l to g2 σ).1 ∧ (s_drop fol n l to g σ).2.2 = (s_drop fol2 n l to g2 σ).2.2
  | 0, _, _, _, _, _ => ⟨rfl, rfl⟩
  | n + 1, l, to, g, g2, σ => by
    by_cases h : s_bulkOf σ l ≤ 0
    · rw [s_drop_cons_skip h, s_drop_cons_skip h]
      exact drop_fol fol fol2 n (l + 1) to g g2 σ
    · rw [s_drop_cons_keep h, s_drop_cons_keep h]
      exact drop_fol fol fol2 n (l + 1) (to + 1) _ _ _
theorem drop_off (fol : Int32) {k : Nat} (hk : k < 60 ∨ 300 ≤ k) : ∀ (n l to : Nat) (g : Int32) (σ : Nat → Int32), to ≤ l → l + n ≤ 24 → (s_drop fol n l to g σ).2.2 k = σ k
  | 0, _, _, _, _, _, _ => rfl
  | n + 1, l, to, g, σ, h1, h2 => by
    by_cases h : s_bulkOf σ l ≤ 0
    · rw [s_drop_cons_skip h]
      exact drop_off fol hk n (l + 1) to g σ (by omega) (by omega)
    · rw [s_drop_cons_keep h, drop_off fol hk n (l + 1) (to + 1) _ _ (by omega) (by omega), scpl_o (by omega)]
theorem drop_bins (fol : Int32) (Q : Int32 → Prop) : ∀ (n l to : Nat) (g : Int32) (σ : Nat → Int32), to ≤ l → (∀ j, j < to → Q (σ (60 + 10 * j))) → (∀ j, l ≤ j → j < l + n → Q (σ (60 + 10 * j))) → ∀ j, j < (s_drop fol n l to g σ).1 → Q ((s_drop fol n l to g σ).2.2 (60 + 10 * j))
  | 0, _, _, _, _, _, h1, _ => h1
  | n + 1, l, to, g, σ, h0, h1, h2 => by
    by_cases h : s_bulkOf σ l ≤ 0
    · rw [s_drop_cons_skip h]
      exact drop_bins fol Q n (l + 1) to g σ (by omega) h1 (fun j h3 h4 => h2 j (by omega) (by omega))
    · rw [s_drop_cons_keep h]
      refine drop_bins fol Q n (l + 1) (to + 1) _ _ (by omega) (fun j hj => ?_) (fun j h3 h4 => ?_)
      · by_cases e : j = to
        · subst e
          have := scpl_t (σ := σ) (l := l) (to := j) (k := 0) (by omega)
          rw [Nat.add_zero, Nat.add_zero] at this
          rw [this]
          exact h2 l (Nat.le_refl _) (by omega)
        · rw [scpl_o (by omega)]
          exact h1 j (by omega)
      · rw [scpl_o (by omega)]
        exact h2 j (by omega) (by omega)
/-- an hour of the flat row -/
def s_hr (σ : Nat → Int32) : Nat → Int32 := (s_hour σ (σ 1).toNatClampNeg (σ 2).toNatClampNeg 0).1
def s_hrs : Nat → (Nat → Int32) → Nat → Int32
  | 0, σ => σ
  | n + 1, σ => s_hr (s_hrs n σ)
theorem pass_fol {σ : Nat → Int32} {nl : Nat} {p : Nat → Int32} (fol fol2 : Int32) : (s_pass σ nl p fol).1 = (s_pass σ nl p fol2).1 := by
  have h := drop_fol fol fol2 nl 0 0 (-1) (-1) (s_rings nl p 5 0 σ)
  show upd (upd (s_drop fol nl 0 0 (-1) (s_rings nl p 5 0 σ)).2.2 1 (nI (s_drop fol nl 0 0 (-1) (s_rings nl p 5 0 σ)).1)) 5 ((s_drop fol nl 0 0 (-1) (s_rings nl p 5 0 σ)).2.2 5 + 1) = upd (upd (s_drop fol2 nl 0 0 (-1) (s_rings nl p 5 0 σ)).2.2 1 (nI (s_drop fol2 nl 0 0 (-1) (s_rings nl p 5 0 σ)).1)) 5 ((s_drop fol2 nl 0 0 (-1) (s_rings nl p 5 0 σ)).2.2 5 + 1)
  rw [h.1, h.2]
theorem s_hr_eq {σ : Nat → Int32} {nl nx : Nat} (h1 : σ 1 = nI nl) (hl : nl ≤ 24) (h2 : σ 2 = nI nx) (hx : nx ≤ 12) (fol : Int32) : s_hr σ = (s_hour σ nl nx fol).1 := by
  unfold s_hr s_hour
  rw [h1, h2, nI_clamp (by omega), nI_clamp (by omega)]
  exact pass_fol _ _
theorem pass_off {σ : Nat → Int32} {nl k : Nat} {p : Nat → Int32} {fol : Int32} (hnl : nl ≤ 24) (h : (k < 9 ∧ k ≠ 1 ∧ k ≠ 5) ∨ (12 ≤ k ∧ k < 60) ∨ 300 ≤ k) : (s_pass σ nl p fol).1 k = σ k := by
  show upd (upd (s_drop fol nl 0 0 (-1) (s_rings nl p 5 0 σ)).2.2 1 _) 5 _ k = σ k
  rw [upd_ne (by omega), upd_ne (by omega), drop_off fol (by omega) nl 0 0 _ _ (by omega) (by omega), s_rings_off hnl (by unfold Fx; omega) (by omega)]
theorem pass_5 {σ : Nat → Int32} {nl : Nat} {p : Nat → Int32} {fol : Int32} (hnl : nl ≤ 24) : (s_pass σ nl p fol).1 5 = σ 5 + 1 := by
  show upd (upd (s_drop fol nl 0 0 (-1) (s_rings nl p 5 0 σ)).2.2 1 (nI (s_drop fol nl 0 0 (-1) (s_rings nl p 5 0 σ)).1)) 5 ((s_drop fol nl 0 0 (-1) (s_rings nl p 5 0 σ)).2.2 5 + 1) 5 = σ 5 + 1
  rw [upd_eq, drop_off fol (by omega) nl 0 0 _ _ (by omega) (by omega), s_rings_off hnl (by unfold Fx; omega) (by omega)]
theorem hr_5 {σ : Nat → Int32} {nl nx : Nat} (h1 : σ 1 = nI nl) (hl : nl ≤ 24) (h2 : σ 2 = nI nx) (hx : nx ≤ 12) : s_hr σ 5 = σ 5 + 1 := by
  rw [s_hr_eq h1 hl h2 hx 0]
  exact pass_5 hl
theorem HSx.ok {M : Mm} {h nb nl nx nt nd : Nat} {σ : Nat → Int32} {la : Nat → Nat} (hs : HSx M h σ nb nl nx nt nd la) : HourOK σ nl nx := by
  obtain ⟨hW0, hB, hF, hT, hD, hR⟩ := hs
  obtain ⟨w0, w1, w2, w3, w4, w5, w6, w7, w8, w9, wb, wf, wl, _⟩ := hW0
  refine ⟨w2, w3, w4, w5, fun t ht _ => (hT.2 t ht).2.2.2.1, fun l hl => ?_, fun r hr => ?_⟩
  · obtain ⟨b, k, sh, t, w, g, ρ, hb, hk, hsh, ht, hw1, hw2, e0, ek, es, et, ew, _⟩ := wf l hl
    refine ⟨⟨b, hb, e0⟩, fun q => ?_⟩
    rw [ew] at q
    have := (nI_inj (b := 0) (by omega) (by omega)).mp q
    omega
  · obtain ⟨R, h1, h2, h3⟩ := res_nat hr wf
    rw [h3]
    intro q
    have := (nI_inj (b := 0) (by omega) (by omega)).mp q
    omega
/-- an hour of the house's own furnace -/
def OffR (h : Nat) (M M2 : Mm) : Prop := (∀ c, c < h + 8 ∨ h + 81 < c → mI M2 c = mI M c) ∧ ∀ c, c ≠ h + 9 → mR M2 c = mR M c
theorem HSx.hour {M M1 M2 : Mm} {h nb nl nx nt nd : Nat} {σ : Nat → Int32} {la : Nat → Nat} {fol : Int32} (hs : HSx M h σ nb nl nx nt nd la) (ho : OffT h M M1) (hq : HrQ M1 (h + 8) nl σ (s_parts (s_gas σ nl nx) (s_wts σ nl)) fol la M2) (hH : HIn (s_hr σ)) : ∃ to la2, to ≤ nl ∧ HSx M2 h (s_hr σ) nb to nx nt nd la2 ∧ OffR h M M2 := by
  obtain ⟨w0, w1, w2, w3, w4, w5, w6, w7, w8, w9, wb, wf, wl, _⟩ := id hs.1
  obtain ⟨to, la2, h1, h2, h3, h4, h5, h6, h7⟩ := hq
  refine ⟨to, la2, h1, ?_, ⟨fun c hc => by rw [h6.1 c (by omega), ho.1 c (by omega) (by omega)], fun c hc => by rw [h6.2 c (by omega), ho.2]⟩⟩
  rw [s_hr_eq w2 w3 w4 w5 fol] at hH ⊢
  refine hs.furn (fun k hk => pass_off w3 (by omega)) h2 (by omega) h4 (fun l hl => ?_) hH h3 (fun c h8 h9 h10 h11 h12 => by rw [h6.1 c (by omega), ho.1 c (by omega) (by omega)])
  have hd : (s_drop fol nl 0 0 (-1) (s_rings nl (s_parts (s_gas σ nl nx) (s_wts σ nl)) 5 0 σ)).1 = to := by
    have e : (s_hour σ nl nx fol).1 1 = nI (s_drop fol nl 0 0 (-1) (s_rings nl (s_parts (s_gas σ nl nx) (s_wts σ nl)) 5 0 σ)).1 := rfl
    have hle := drop_le fol nl 0 0 (-1) (s_rings nl (s_parts (s_gas σ nl nx) (s_wts σ nl)) 5 0 σ)
    exact (nI_inj (by omega) (by omega)).mp (e.symm.trans h2)
  have := drop_bins fol (fun v => ∃ b, b < nb ∧ v = nI b) nl 0 0 (-1) (s_rings nl (s_parts (s_gas σ nl nx) (s_wts σ nl)) 5 0 σ) (by omega) (fun j hj => absurd hj (by omega)) (fun j _ hj => by rw [s_rings_off w3 (by unfold Fx; omega) (by omega)]; exact wl j (by omega)) l (by rw [hd]; exact hl)
  show ∃ b, b < nb ∧ upd (upd (s_drop fol nl 0 0 (-1) (s_rings nl (s_parts (s_gas σ nl nx) (s_wts σ nl)) 5 0 σ)).2.2 1 _) 5 _ (60 + 10 * l) = nI b
  rw [upd_ne (by omega), upd_ne (by omega)]
  exact this
