/-! the class's furnace: an hour; the house: a charge out of a bin -/
theorem bX1_eatenOf_0 {G : Gl} {d : Nat} {X : Sh} {M : Mm} {Q : Mm → Int32 → Prop} {a : Nat} {x1 : Int32} (hS : Sh1 X a) (h : (∃ j1 : Nat, x1 = nI j1 ∧ j1 < 5 ∧ Q M (((mI M (a + 53) j1) / 4) + 1))) : Wn G m_X1_eatenOf d 0 [(0, .ref a), (1, .int x1)] [] X M Q := by
  refine wp_aload_n 0 dX1_eatenOf_0 rfl rfl ?_
  refine wp_getR dX1_eatenOf_1 fl_RX1_45 rfl (sh1_K hS) (sh1_F_parts hS) ?_
  refine wp_iload_n 1 dX1_eatenOf_4 rfl rfl ?_
  obtain ⟨j1, o2, o3, h⟩ := h
  refine wp_iald (n := 5) dX1_eatenOf_5 (sh1_K_parts hS) (sh1_N_parts hS) (by decide) o2 o3 ?_
  refine wp_iconst (v := 4) dX1_eatenOf_6 rfl ?_
  refine wp_idiv dX1_eatenOf_7 (by decide) ?_
  refine wp_iconst (v := 1) dX1_eatenOf_8 rfl ?_
  refine wp_iadd dX1_eatenOf_9 ?_
  exact wn_iret dX1_eatenOf_10 rfl h
theorem bX1_passHour_0 {G : Gl} {d : Nat} {X : Sh} {M : Mm} {Q : Mm → Prop} {a : Nat} {x1 : Int32} (hS : Sh1 X a) (h : (∃ q1 : Mm → Prop, Cv G m_X1_partGas d [.ref a, .int x1] X M q1 ∧ ∀ M3, q1 M3 → Wv G m_X1_passHour (d + 1) 7 [(0, .ref a), (2, .int 0)] [] X M3 Q)) : Wv G m_X1_passHour (d + 1) 0 [(0, .ref a), (1, .int x1)] [] X M Q := by
  refine wp_aload_n 0 dX1_passHour_0 rfl rfl ?_
  refine wp_iload_n 1 dX1_passHour_1 rfl rfl ?_
  obtain ⟨q1, o2, h⟩ := h
  refine wp_cvv dX1_passHour_2 ck_RX1_150 (sh1_K hS) (as := [.int x1]) rfl rfl (Nat.le_of_ble_eq_true rfl) o2 (fun M3 o4 => ?_)
  replace h := h M3 o4
  refine wp_iconst (v := 0) dX1_passHour_5 rfl ?_
  refine wp_istore_n (lo2 := [(2, .int _), (0, .ref _), (1, .int _)]) dX1_passHour_6 rfl (by decide) rfl ?_
  exact Wp.sub [1, 0] rfl h
theorem bX1_passHour_7 {G : Gl} {d : Nat} {X : Sh} {M : Mm} {Q : Mm → Prop} {a : Nat} {x2 : Int32} (hS : Sh1 X a) (h : ((5 ≤ x2 → (∃ q2 : Mm → Prop, Cv G m_X1_dropEmptyLayers d [.ref a] X M q2 ∧ ∀ M4, q2 M4 → (∀ M6 : Mm, M6 = sI M4 a 0 ((mI M4 a 0) + 1) → Q M6))) ∧ (¬ (5 ≤ x2) → (∃ q7 : Mm → Int32 → Prop, Cn G m_X1_eatenOf d [.ref a, .int x2] X M q7 ∧ ∀ M9 r10, q7 M9 r10 → (∃ q12 : Mm → Prop, Cv G m_X1_eat d [.ref a, .int x2, .int r10] X M9 q12 ∧ ∀ M14, q12 M14 → Wv G m_X1_passHour (d + 1) 7 [(0, .ref a), (2, .int (x2 + 1))] [] X M14 Q))))) : Wv G m_X1_passHour (d + 1) 7 [(0, .ref a), (2, .int x2)] [] X M Q := by
  refine wp_iload_n 1 dX1_passHour_7 rfl rfl ?_
  refine wp_iconst (v := 5) dX1_passHour_8 rfl ?_
  refine wp_icmp_ge (tgt := 28) dX1_passHour_9 (by decide) (fun c1 => ?_) (fun c1 => ?_)
  · replace h := h.1 c1
    refine wp_aload_n 0 dX1_passHour_28 rfl rfl ?_
    obtain ⟨q2, o3, h⟩ := h
    refine wp_cvv dX1_passHour_29 ck_RX1_160 (sh1_K hS) (as := []) rfl rfl (Nat.le_of_ble_eq_true rfl) o3 (fun M4 o5 => ?_)
    replace h := h M4 o5
    refine wp_aload_n 0 dX1_passHour_32 rfl rfl ?_
    refine wp_dup dX1_passHour_33 rfl ?_
    refine wp_getI dX1_passHour_34 fl_RX1_9 rfl (sh1_K hS) ?_
    refine wp_iconst (v := 1) dX1_passHour_37 rfl ?_
    refine wp_iadd dX1_passHour_38 ?_
    refine wp_putI dX1_passHour_39 fp_RX1_9 rfl (sh1_K hS) ?_
    refine wp_nm (fun M6 eM6 => ?_)
    replace h := h M6 eM6
    exact wv_ret dX1_passHour_42 rfl h
  · replace h := h.2 c1
    refine wp_aload_n 0 dX1_passHour_12 rfl rfl ?_
    refine wp_iload_n 1 dX1_passHour_13 rfl rfl ?_
    refine wp_aload_n 0 dX1_passHour_14 rfl rfl ?_
    refine wp_iload_n 1 dX1_passHour_15 rfl rfl ?_
    obtain ⟨q7, o8, h⟩ := h
    refine wp_cvi dX1_passHour_16 ck_RX1_153 (sh1_K hS) (as := [.int x2]) rfl rfl (Nat.le_of_ble_eq_true rfl) o8 (fun M9 r10 o11 => ?_)
    replace h := h M9 r10 o11
    obtain ⟨q12, o13, h⟩ := h
    refine wp_cvv dX1_passHour_19 ck_RX1_156 (sh1_K hS) (as := [.int x2, .int r10]) rfl rfl (Nat.le_of_ble_eq_true rfl) o13 (fun M14 o15 => ?_)
    replace h := h M14 o15
    refine wp_iinc (v := x2 + 1) (lo2 := [(2, .int _), (0, .ref _)]) dX1_passHour_22 (q := 1) rfl rfl (by decide) rfl ?_
    refine wp_goto (tgt := 7) dX1_passHour_25 (by decide) ?_
    exact Wp.sub [1, 0] rfl h
theorem cp_X1_eatenOf (G : Gl) (d : Nat) (X : Sh) (M : Mm) (a r : Nat) (hS : Sh1 X a) (hr : r < 5) : Cn G m_X1_eatenOf d [.ref a, .int (nI r)] X M (fun M2 x => M2 = M ∧ x = mI M (a + 53) r / 4 + 1) :=
  Cn.of (by decide) (Nat.le_of_ble_eq_true rfl) (bX1_eatenOf_0 hS ⟨r, rfl, hr, rfl, rfl⟩)
def n_holds (k : Nat) : Nat := if k = 1 then 3 else if k = 2 ∨ k = 3 then 1 else if k = 4 then 5 else 2
theorem f_holds_n {k : Nat} (hk : k ≤ 5) : f_holds (nI k) = nI (n_holds k) := by
  unfold f_holds n_holds
  rw [n_lit 1, n_lit 2, n_lit 3, n_lit 4, n_lit 5]
  simp only [kq (c := 1) hk (by omega), kq (c := 2) hk (by omega), kq (c := 3) hk (by omega), kq (c := 4) hk (by omega)]
  split
  · rfl
  · split
    · rfl
    · split <;> rfl
theorem n_holds_le (k : Nat) : n_holds k ≤ 5 := by
  unfold n_holds
  split
  · omega
  · split
    · omega
    · split <;> omega
/-- the resistance as a Nat -/
theorem res_nat {σ : Nat → Int32} {r : Nat} (hr : r < 5) : ∀ {nl : Nat}, FW σ nl → ∃ R, 1 ≤ R ∧ R ≤ 1 + nl * 100000 ∧ s_res σ nl r = nI R
  | 0, _ => ⟨1, by omega, by omega, rfl⟩
  | nl + 1, h => by
    obtain ⟨R, h1, h2, h3⟩ := res_nat hr (nl := nl) (fun l hl => h l (by omega))
    obtain ⟨b, k, sh, t, w, g, ρ, hb, hk, hsh, ht, hw1, hw2, e0, ek, es, et, ew, eg, er, hs⟩ := h nl (by omega)
    have hρ : ρ r ≤ nsum ρ 5 := nsum_at hr
    have hh := n_holds_le k
    have hm : ρ r * n_holds k ≤ 20000 * 5 := Nat.mul_le_mul (by omega) hh
    refine ⟨R + ρ r * n_holds k, by omega, by omega, ?_⟩
    show s_res σ nl r + σ (65 + 10 * nl + r) * f_holds (σ (20 + 5 * (σ (60 + 10 * nl)).toNatClampNeg)) = _
    rw [h3, er r hr, e0, nI_clamp (by omega), ek, f_holds_n hk, pk_mul, nI_add]
theorem area_nat {r : Nat} (hr : r < 5) : areaV r = nI (2 * r + 1) := by
  match r, hr with
  | 0, _ => rfl
  | 1, _ => rfl
  | 2, _ => rfl
  | 3, _ => rfl
  | 4, _ => rfl
theorem wts_nat {σ : Nat → Int32} {nl : Nat} (hnl : nl ≤ 24) (h : FW σ nl) : ∃ W, NWt (s_wts σ nl) W := by
  refine ⟨fun r => (2 * r + 1) * 100000 / (s_res σ nl r).toNatClampNeg, fun r hr => ?_⟩
  obtain ⟨R, h1, h2, h3⟩ := res_nat hr h
  show (areaV r * 100000 / s_res σ nl r).toInt64 = lN ((2 * r + 1) * 100000 / (s_res σ nl r).toNatClampNeg) ∧ (2 * r + 1) * 100000 / (s_res σ nl r).toNatClampNeg ≤ 900000
  have h4 : (2 * r + 1) * 100000 / R ≤ (2 * r + 1) * 100000 := Nat.div_le_self _ _
  rw [h3, nI_clamp (by omega), area_nat hr, n_lit 100000, pk_mul, nI_div (by omega) (by omega) (by omega), nI_l (by omega)]
  exact ⟨rfl, by omega⟩
theorem FR.res {M : Mm} {f nl r : Nat} {σ : Nat → Int32} {la : Nat → Nat} (h : FR M f σ nl la) (hr : r < 5) : c_res M la r nl = s_res σ nl r := s_sum_cong (fun l hl => by
  have := h.2.2 l hl
  rw [this.2.2.2.2.2.2.2.2.2 r hr, this.2.2.2.1])
theorem FR.mem {M M2 : Mm} {f nl : Nat} {σ : Nat → Int32} {la : Nat → Nat} (h : FR M f σ nl la) (hnl : nl ≤ 24) (e : ∀ c, f ≤ c → c ≤ f + 50 → mI M2 c = mI M c) (eR : mR M2 (f + 1) = mR M (f + 1)) : FR M2 f σ nl la := by
  obtain ⟨hP, hD, hL⟩ := h
  refine ⟨⟨fun l hl => by rw [eR]; exact hP.1 l hl, hP.2⟩, ?_, fun l hl => ?_⟩
  · unfold FD
    rw [e f (by omega) (by omega), e (f + 50) (by omega) (by omega)]
    exact hD
  · have := hP.at (l := l) (by omega)
    unfold LD
    rw [e (la l) (by omega) (by omega), e (la l + 1) (by omega) (by omega)]
    exact hL l hl
/-- places of the flat row that the furnace speaks of -/
def Fk (k : Nat) : Prop := k = 5 ∨ (9 ≤ k ∧ k ≤ 11) ∨ (20 ≤ k ∧ k < 50 ∧ k % 5 ≤ 1) ∨ (60 ≤ k ∧ k < 300)
theorem FW.cong {σ τ : Nat → Int32} {nl : Nat} (h : FW σ nl) (hnl : nl ≤ 24) (e : ∀ k, Fk k → τ k = σ k) : FW τ nl := by
  intro l hl
  obtain ⟨b2, k, sh, t2, w, g, ρ, hb2, hk5, hsh, ht2, hw1, hw2, e0, ek, es, et, ew, eg, er, hs⟩ := h l hl
  refine ⟨b2, k, sh, t2, w, g, ρ, hb2, hk5, hsh, ht2, hw1, hw2, ?_, ?_, ?_, ?_, ?_, ?_, fun r hr => ?_, hs⟩
  · rw [e _ (by unfold Fk; omega), e0]
  · rw [e _ (by unfold Fk; omega), ek]
  · rw [e _ (by unfold Fk; omega), es]
  · rw [e _ (by unfold Fk; omega), et]
  · rw [e _ (by unfold Fk; omega), ew]
  · rw [e _ (by unfold Fk; omega), eg]
  · rw [e _ (by unfold Fk; omega), er r hr]
theorem bulkIn_cong {σ τ : Nat → Int32} {nl r : Nat} (hnl : nl ≤ 24) (hr : r < 5) (e : ∀ k, 60 ≤ k → k < 300 → τ k = σ k) : s_bulkIn τ r nl = s_bulkIn σ r nl := s_sum_cong (fun l hl => e _ (by omega) (by omega))
theorem FR.cong {M : Mm} {f nl : Nat} {σ τ : Nat → Int32} {la : Nat → Nat} (h : FR M f σ nl la) (hW : FW σ nl) (hnl : nl ≤ 24) (e : ∀ k, Fk k → τ k = σ k) : FR M f τ nl la := by
  obtain ⟨hP, ⟨d0, d1, d2, d3, d5, d6⟩, hL⟩ := h
  refine ⟨hP, ⟨?_, ?_, ?_, ?_, d5, fun r hr => ?_⟩, fun l hl => ?_⟩
  · rw [e _ (by unfold Fk; omega), d0]
  · rw [e _ (by unfold Fk; omega), d1]
  · rw [e _ (by unfold Fk; omega), d2]
  · rw [e _ (by unfold Fk; omega), d3]
  · rw [d6 r hr, bulkIn_cong hnl hr (fun k h1 h2 => e k (by unfold Fk; omega))]
  · obtain ⟨b2, k, sh, t2, w, g, ρ, hb2, hk5, hsh, ht2, hw1, hw2, e0, _⟩ := hW l hl
    exact LD.move (hL l hl) e0 hb2 (e _ (by unfold Fk; omega)) (e _ (by unfold Fk; omega)) (fun k hk => e _ (by unfold Fk; omega)) rfl rfl
/-- an hour's frame -/
def OffH (f : Nat) (M M2 : Mm) : Prop := (∀ c, c < f ∨ f + 53 < c → mI M2 c = mI M c) ∧ ∀ c, c ≠ f + 1 → mR M2 c = mR M c
def HrQ (M : Mm) (f nl : Nat) (σ p : Nat → Int32) (fol : Int32) (la : Nat → Nat) (M2 : Mm) : Prop := ∃ to la2, to ≤ nl ∧ (s_pass σ nl p fol).1 1 = nI to ∧ FR M2 f (s_pass σ nl p fol).1 to la2 ∧ FW (s_pass σ nl p fol).1 to ∧ (∀ l, l < to → ¬ s_bulkOf (s_pass σ nl p fol).1 l ≤ 0) ∧ OffH f M M2 ∧ ∀ l0, l0 < nl → fol = nI l0 → Fol M2 la2 to (s_pass σ nl p fol).2 (la l0)
theorem drop_le (fol : Int32) : ∀ (n l to : Nat) (g : Int32) (σ : Nat → Int32), (s_drop fol n l to g σ).1 ≤ to + n
  | 0, _, _, _, _ => Nat.le_refl _
  | n + 1, l, to, g, σ => by
    by_cases h : s_bulkOf σ l ≤ 0
    · rw [s_drop_cons_skip h]
      have := drop_le fol n (l + 1) to g σ
      omega
    · rw [s_drop_cons_keep h]
      have := drop_le fol n (l + 1) (to + 1) (if nI l = fol then nI to else g) (s_cpl σ l to)
      omega
theorem cl_X1_passHour (G : Gl) (d : Nat) (hd : 2 ≤ d) {X : Sh} {f nl : Nat} {p : Nat → Int32} {fol : Int32} {la : Nat → Nat} {Q : Mm → Prop} (hS : Sh1 X f) (hnl : nl ≤ 24) (M0 : Mm) (σ0 : Nat → Int32) (hq : ∀ M2, HrQ M0 f nl σ0 p fol la M2 → Q M2) :
    ∀ (n r : Nat) (M : Mm) (σ : Nat → Int32), r + n = 5 → FR M f σ nl la → FW σ nl → (∀ r, r < 5 → mI M (f + 53) r = p r) → s_rings nl p n r σ = s_rings nl p 5 0 σ0 → OffH f M0 M → Wv G m_X1_passHour (d + 1) 7 [(0, .ref f), (2, .int (nI r))] [] X M Q
  | 0, r, M, σ, h, hF, hW, hp, hs, ho => by
    have hi : r = 5 := h
    subst hi
    have hs : σ = s_rings nl p 5 0 σ0 := hs
    refine bX1_passHour_7 hS ⟨fun _ => ⟨_, cp_X1_drop G d X M f nl fol σ la hS hnl hF hW, ?_⟩, fun h => absurd (by decide) h⟩
    rintro M4 ⟨la2, hD, hI, hf⟩
    intro M6 e6
    rw [hs] at hD hI hf
    have hle := drop_le fol nl 0 0 (-1) (s_rings nl p 5 0 σ0)
    have e1 : (s_pass σ0 nl p fol).2 = (s_drop fol nl 0 0 (-1) (s_rings nl p 5 0 σ0)).2.1 := rfl
    have e2 : (s_pass σ0 nl p fol).1 = upd (upd (s_drop fol nl 0 0 (-1) (s_rings nl p 5 0 σ0)).2.2 1 (nI (s_drop fol nl 0 0 (-1) (s_rings nl p 5 0 σ0)).1)) 5 ((s_drop fol nl 0 0 (-1) (s_rings nl p 5 0 σ0)).2.2 5 + 1) := rfl
    generalize s_drop fol nl 0 0 (-1) (s_rings nl p 5 0 σ0) = q at hD hI hf hle e1 e2
    obtain ⟨to, g, τ⟩ := q
    simp only at hD hI hf hle e1 e2
    have uo : ∀ k, k ≠ 1 → k ≠ 5 → upd (upd τ 1 (nI to)) 5 (τ 5 + 1) k = τ k := fun k h1 h5 => by simp only [upd, h1, h5, if_false]
    obtain ⟨hP, hk, _, h3, h4⟩ := hI
    have m6 : ∀ c, c ≠ f → mI M6 c = mI M4 c := fun c hc => by rw [e6, mI_sI, up2_off _ _ _ hc]
    have m4 : ∀ c, c ≠ f → mI M4 c = mI M c := fun c hc => by rw [hD.1, up2_off _ _ _ hc]
    have k6 : ∀ k, k ≠ 0 → mI M6 f k = mI M4 f k := fun k hk => by rw [e6, mI_sI, up2_k _ _ _ hk]
    have eR : mR M6 = mR M4 := by
      rw [e6]
      rfl
    refine hq M6 ⟨to, la2, by omega, by rw [e2]; rfl, ⟨hP.mR eR, ⟨?_, ?_, ?_, ?_, ?_, fun r hr => ?_⟩, fun l hl => ?_⟩, fun l hl => ?_, fun l hl => ?_, ⟨fun c hc => ?_, fun c hc => ?_⟩, fun l0 h5 h6 => ?_⟩
    · rw [e6, mI_sI, up2_same, h3.1, e2]
      rfl
    · rw [k6 _ (by omega), h3.2.1, e2, uo _ (by omega) (by omega)]
    · rw [k6 _ (by omega), h3.2.2.1, e2, uo _ (by omega) (by omega)]
    · rw [k6 _ (by omega), h3.2.2.2, e2, uo _ (by omega) (by omega)]
    · rw [k6 _ (by omega), hD.1, up2_same]
    · rw [m6 _ (by omega), h4 r hr, e2]
      show s_bulkIn τ r to = s_bulkIn _ r to
      exact s_sum_cong (fun k hk => (uo _ (by omega) (by omega)).symm)
    · obtain ⟨h5, h6, h7⟩ := hk l hl
      have al := hP.at (l := l) (by omega)
      obtain ⟨b2, k, sh, t2, w, g, ρ, hb2, hk5, hsh, ht2, hw1, hw2, e0, _⟩ := h6
      rw [e2]
      exact LD.move h5 e0 hb2 (uo _ (by omega) (by omega)) (uo _ (by omega) (by omega)) (fun k hk => uo _ (by omega) (by omega)) (m6 _ (by omega)) (m6 _ (by omega))
    · rw [e2]
      exact (hk l hl).2.1.move (fun k _ _ => uo _ (by omega) (by omega)) (fun k hk => uo _ (by omega) (by omega))
    · have h5 := (hk l hl).2.2
      have e3 : s_bulkOf (s_pass σ0 nl p fol).1 l = s_bulkOf τ l := by
        rw [e2]
        exact s_sum_cong (fun r hr => uo _ (by omega) (by omega))
      rw [e3]
      exact h5
    · rw [m6 _ (by omega), m4 _ (by omega), ho.1 c hc]
    · rw [eR, hD.2 c hc, ho.2 c hc]
    · have hl := hF.1.at (l := l0) (by omega)
      rw [e1]
      rcases hf l0 h5 h6 with h7 | ⟨h7, h8⟩
      · exact Or.inl h7
      · exact Or.inr ⟨h7, by rw [m6 _ (by omega)]; exact h8⟩
  | n + 1, r, M, σ, h, hF, hW, hp, hs, ho => by
    refine bX1_passHour_7 hS ⟨fun h2 => absurd h2 (n5 (by omega)), fun _ => ⟨_, cp_X1_eatenOf G d X M f r hS (by omega), ?_⟩⟩
    rintro M9 _ ⟨e, rfl⟩
    have e := e.symm
    subst e
    refine ⟨_, cp_X1_eat G d hd X M f nl r _ σ la hS hnl (by omega) hF hW, ?_⟩
    rintro M14 ⟨h1, h2, h3⟩
    rw [hp r (by omega)] at h1 h2
    rw [nI_1]
    exact cl_X1_passHour G d hd hS hnl M0 σ0 hq n (r + 1) M14 _ (by omega) h1 h2 (fun q hq => by rw [h3.1 _ (by omega)]; exact hp q hq) hs ⟨fun c hc => (h3.1 c (by omega)).trans (ho.1 c hc), fun c hc => by rw [h3.2.2]; exact ho.2 c hc⟩
/-- an hour of a furnace in order, as the flat row has it -/
theorem cp_X1_passHour (G : Gl) (d : Nat) (hd : 4 ≤ d) (X : Sh) (M : Mm) (f nl gas : Nat) (σ : Nat → Int32) (la : Nat → Nat) (fol : Int32) (hS : Sh1 X f) (hnl : nl ≤ 24) (hF : FR M f σ nl la) (hW : FW σ nl) (hg : gas ≤ 999) : Cv G m_X1_passHour d [.ref f, .int (nI gas)] X M (HrQ M f nl σ (s_parts (nI gas) (s_wts σ nl)) fol la) := by
  obtain ⟨d, rfl⟩ : ∃ d1, d = d1 + 1 := ⟨d - 1, by omega⟩
  obtain ⟨W, hWt⟩ := wts_nat hnl hW
  refine Cv.of (by decide) (Nat.le_of_ble_eq_true rfl) (bX1_passHour_0 hS ⟨_, cp_X1_partGas G d (by omega) X M f nl la (nI gas) (s_wts σ nl) hS hF.2.1.2.2.2.2.1 hnl (hF.1.lays hS hnl) (fun l hl => ?_) (fun r hr => ?_) (fun r hr => ?_) (fair_nat hWt (by omega)), ?_⟩)
  · have := hF.1.at (l := l) (by omega)
    omega
  · obtain ⟨R, h1, h2, h3⟩ := res_nat hr hW
    rw [hF.res hr, h3]
    exact (nI_leI (a := 1) (by omega) (by omega)).mpr h1
  · rw [hF.res hr]
    rfl
  · rintro M3 ⟨h1, h2, h3⟩
    exact cl_X1_passHour G d (by omega) hS hnl M σ (fun _ h => h) 5 0 M3 σ rfl (hF.mem hnl (fun c h4 h5 => h2 c (by omega) (by omega)) (by rw [h3])) hW h1 rfl ⟨fun c hc => h2 c (by omega) (by omega), fun c _ => by rw [h3]⟩
theorem bX2_chargeOut_0 {G : Gl} {d : Nat} {X : Sh} {M : Mm} {Q : Mm → Prop} {a : Nat} {x1 : Int32} {x2 : Int32} (hS : Sh2 X a) (h : (∃ j1 : Nat, x1 = nI j1 ∧ j1 < 6 ∧ (∀ M4 : Mm, M4 = sI M ((a + 1) + 4) j1 ((mI M ((a + 1) + 4) j1) - x2) → (∃ q5 : Mm → Prop, Cv G m_X1_layOn d [.ref (a + 8), .ref (a + 1), .int x1, .int x2] X M4 q5 ∧ ∀ M7, q5 M7 → (∃ q9 : Mm → Prop, Cv G m_X1_slide d [.ref (a + 8), .int ((mI M7 (a + 85) 0))] X M7 q9 ∧ ∀ M11, q9 M11 → Q M11))))) : Wv G m_X2_chargeOut (d + 1) 0 [(0, .ref a), (1, .int x1), (2, .int x2)] [] X M Q := by
  refine wp_aload_n 0 dX2_chargeOut_0 rfl rfl ?_
  refine wp_getR dX2_chargeOut_1 fl_RX2_12 rfl (sh2_K hS) (sh2_F_bins hS) ?_
  refine wp_getR dX2_chargeOut_4 fl_RX2_113 rfl (sh0_K (sh2_S_bins hS)) (sh0_F_tons (sh2_S_bins hS)) ?_
  refine wp_iload_n 1 dX2_chargeOut_7 rfl rfl ?_
  refine wp_dup2_11 dX2_chargeOut_8 rfl rfl ?_
  obtain ⟨j1, o2, o3, h⟩ := h
  refine wp_iald (n := 6) dX2_chargeOut_9 (sh0_K_tons (sh2_S_bins hS)) (sh0_N_tons (sh2_S_bins hS)) (by decide) o2 o3 ?_
  refine wp_iload_n 2 dX2_chargeOut_10 rfl rfl ?_
  refine wp_isub dX2_chargeOut_11 ?_
  refine wp_iast (n := 6) dX2_chargeOut_12 (sh0_K_tons (sh2_S_bins hS)) (sh0_N_tons (sh2_S_bins hS)) (by decide) o2 o3 ?_
  refine wp_nm (fun M4 eM4 => ?_)
  replace h := h M4 eM4
  refine wp_aload_n 0 dX2_chargeOut_13 rfl rfl ?_
  refine wp_getR dX2_chargeOut_14 fl_RX2_21 rfl (sh2_K hS) (sh2_F_furnace hS) ?_
  refine wp_aload_n 0 dX2_chargeOut_17 rfl rfl ?_
  refine wp_getR dX2_chargeOut_18 fl_RX2_12 rfl (sh2_K hS) (sh2_F_bins hS) ?_
  refine wp_iload_n 1 dX2_chargeOut_21 rfl rfl ?_
  refine wp_iload_n 2 dX2_chargeOut_22 rfl rfl ?_
  obtain ⟨q5, o6, h⟩ := h
  refine wp_cvv dX2_chargeOut_23 ck_RX2_121 (sh1_K (sh2_S_furnace hS)) (as := [.ref (a + 1), .int x1, .int x2]) rfl rfl (Nat.le_of_ble_eq_true rfl) o6 (fun M7 o8 => ?_)
  replace h := h M7 o8
  refine wp_aload_n 0 dX2_chargeOut_26 rfl rfl ?_
  refine wp_getR dX2_chargeOut_27 fl_RX2_21 rfl (sh2_K hS) (sh2_F_furnace hS) ?_
  refine wp_aload_n 0 dX2_chargeOut_30 rfl rfl ?_
  refine wp_getR dX2_chargeOut_31 fl_RX2_39 rfl (sh2_K hS) (sh2_F_rules hS) ?_
  refine wp_iconst (v := 0) dX2_chargeOut_34 rfl ?_
  refine wp_iald (n := 3) dX2_chargeOut_35 (sh2_K_rules hS) (sh2_N_rules hS) (by decide) rfl (by decide) ?_
  obtain ⟨q9, o10, h⟩ := h
  refine wp_cvv dX2_chargeOut_36 ck_RX2_125 (sh1_K (sh2_S_furnace hS)) (as := [.int ((mI M7 (a + 85) 0))]) rfl rfl (Nat.le_of_ble_eq_true rfl) o10 (fun M11 o12 => ?_)
  replace h := h M11 o12
  exact wv_ret dX2_chargeOut_39 rfl h
/-- the bins at a are the flat row's -/
def BRep (M : Mm) (a : Nat) (σ : Nat → Int32) (nb : Nat) : Prop := mI M a 5 = nI nb ∧ mI M a 7 = σ 3 ∧ (∀ i, i < nb → mI M (a + 1) i = σ (20 + 5 * i) ∧ mI M (a + 2) i = σ (21 + 5 * i) ∧ mI M (a + 3) i = σ (22 + 5 * i) ∧ mI M (a + 4) i = σ (23 + 5 * i) ∧ mI M (a + 5) i = σ (24 + 5 * i)) ∧ ∀ k, k < 3 → mI M (a + 6) k = σ (310 + k)
theorem scm_b {σ : Nat → Int32} {nl b i k : Nat} {t : Int32} (hi : i < 6) (hk : k < 5) (hn : k ≠ 3 ∨ i ≠ b) : s_comes σ nl b t (20 + k + 5 * i) = σ (20 + k + 5 * i) := by
  unfold s_comes
  rw [ssl_o (by omega), sly_at (by omega) (by omega) (by omega)]
theorem scm_t {σ : Nat → Int32} {nl b : Nat} {t : Int32} (hb : b < 6) : s_comes σ nl b t (23 + 5 * b) = σ (23 + 5 * b) - t := by
  unfold s_comes
  rw [ssl_o (by omega)]
  unfold s_lay
  rw [if_neg (by omega), if_neg (by omega), if_neg (by omega), if_neg (by omega), if_neg (by omega), if_neg (by omega), if_pos rfl]
theorem scm_o {σ : Nat → Int32} {nl b k : Nat} {t : Int32} (hb : b < 6) (hnl : nl < 24) (h1 : k ≠ 1) (h2 : k < 20 ∨ 50 ≤ k) (h3 : k < 60 ∨ 300 ≤ k) : s_comes σ nl b t k = σ k := by
  unfold s_comes
  rw [ssl_o (by omega), sly_at (by omega) (by omega) (by omega)]
theorem BRep.comes {M M2 : Mm} {a nb b nl : Nat} {σ : Nat → Int32} {t : Int32} (h : BRep M a σ nb) (hnb : nb ≤ 6) (hb : b < nb) (hnl : nl < 24) (e4 : mI M2 (a + 4) = upd (mI M (a + 4)) b (mI M (a + 4) b - t)) (e : ∀ c, a ≤ c → c ≤ a + 6 → c ≠ a + 4 → mI M2 c = mI M c) : BRep M2 a (s_comes σ nl b t) nb := by
  obtain ⟨h1, h2, h3, h4⟩ := h
  refine ⟨?_, ?_, fun i hi => ?_, fun k hk => ?_⟩
  · rw [e _ (by omega) (by omega) (by omega), h1]
  · rw [e _ (by omega) (by omega) (by omega), h2, scm_o (by omega) hnl (by omega) (by omega) (by omega)]
  · obtain ⟨p0, p1, p2, p3, p4⟩ := h3 i hi
    rw [e (a + 1) (by omega) (by omega) (by omega), e (a + 2) (by omega) (by omega) (by omega), e (a + 3) (by omega) (by omega) (by omega), e (a + 5) (by omega) (by omega) (by omega), e4]
    refine ⟨p0.trans (scm_b (k := 0) (by omega) (by omega) (by omega)).symm, p1.trans (scm_b (k := 1) (by omega) (by omega) (by omega)).symm, p2.trans (scm_b (k := 2) (by omega) (by omega) (by omega)).symm, ?_, p4.trans (scm_b (k := 4) (by omega) (by omega) (by omega)).symm⟩
    unfold upd
    by_cases q : i = b
    · subst q
      rw [if_pos rfl, p3, scm_t (by omega)]
    · rw [if_neg q, p3]
      exact (scm_b (k := 3) (by omega) (by omega) (by omega)).symm
  · rw [e _ (by omega) (by omega) (by omega), h4 k hk, scm_o (by omega) hnl (by omega) (by omega) (by omega)]
/-- a charge's frame in the house at h -/
def OffC (h : Nat) (M M2 : Mm) : Prop := (∀ c, c ≠ h + 5 → c < h + 8 ∨ h + 61 < c → mI M2 c = mI M c) ∧ mR M2 = mR M
theorem cp_X2_chargeOut (G : Gl) (d : Nat) (hd : 3 ≤ d) (X : Sh) (M : Mm) (h b nb nl t : Nat) (σ : Nat → Int32) (la : Nat → Nat) (hS : Sh2 X h) (hnb : nb ≤ 6) (hb : b < nb) (hnl : nl < 24) (h1 : 1 ≤ t) (ht : t ≤ 9999) (hB : BRep M (h + 1) σ nb) (hF : FR M (h + 8) σ nl la) (hW : FW σ nl) (hWB : WB σ b) (hr : mI M (h + 85) 0 = σ 6) (h6 : 0 ≤ σ 6) :
    Cv G m_X2_chargeOut d [.ref h, .int (nI b), .int (nI t)] X M (fun M2 => BRep M2 (h + 1) (s_comes σ nl b (nI t)) nb ∧ FR M2 (h + 8) (s_comes σ nl b (nI t)) (nl + 1) la ∧ FW (s_comes σ nl b (nI t)) (nl + 1) ∧ OffC h M M2) := by
  obtain ⟨d, rfl⟩ : ∃ d1, d = d1 + 1 := ⟨d - 1, by omega⟩
  have hS1 := sh2_S_furnace hS
  have hS0 := sh2_S_bins hS
  have an := hF.1.at hnl
  refine Cv.of (by decide) (Nat.le_of_ble_eq_true rfl) (bX2_chargeOut_0 hS ⟨b, rfl, by omega, ?_⟩)
  intro M4 e4
  have m4 : ∀ c, c ≠ h + 1 + 4 → mI M4 c = mI M c := fun c hc => by rw [e4, mI_sI, up2_off _ _ _ hc]
  have F4 : FR M4 (h + 8) σ nl la := hF.mem (by omega) (fun c h5 _ => m4 c (by omega)) (by rw [e4]; rfl)
  obtain ⟨b0, b1, b2, b3, b4⟩ := hB.2.2.1 b hb
  obtain ⟨k, sh, v, s, hk, hsh, hv1, hv, hs, e0, e1, e3, e5⟩ := id hWB
  have hF2 : FairW (f_bulk (mI M4 (h + 1 + 1) b) (nI t)) (fun r => (dgW (mI M4 (h + 1 + 5) b) r).toInt64) := by
    rw [m4 _ (by omega), m4 _ (by omega), b0, b4, e0, e5, f_bulk_n hk ht]
    exact fair_nat (digits_nw hv) (n_bulk_le h1 ht).2
  refine ⟨_, cp_X1_layOn G d (by omega) X M4 (h + 8) (h + 1) (la nl) b nl (nI t) hS1 hS0 F4.2.1.2.2.2.2.1 hnl (F4.1.1 nl hnl) (F4.1.sh hS1 hnl) (by omega) (by omega) (by omega) hF2, ?_⟩
  intro M7 h7
  have F7 := F4.lays hnl hW hWB (by omega) ht (by rw [m4 _ (by omega), b0]) (by rw [m4 _ (by omega), b1]) (by rw [m4 _ (by omega), b4]) h7
  have W7 := hW.lays hWB (by omega) h1 ht
  obtain ⟨_, _, _, _, _, _, _, _, _, _, _, _, _, o7, r7⟩ := h7
  have q6 : mI M7 (h + 85) 0 = s_lay σ nl b (nI t) 6 := by rw [o7 _ (by omega) (by omega) (by omega) (by omega) (by omega) (by omega), m4 _ (by omega), hr, sly_at (by omega) (by omega) (by omega)]
  have q60 : 0 ≤ s_lay σ nl b (nI t) 6 := by
    rw [sly_at (by omega) (by omega) (by omega)]
    exact h6
  rw [q6]
  refine ⟨_, cp_X1_slide G d (by omega) X M7 (h + 8) (la nl) nl _ hS1 F7.2.1.2.2.2.2.1 hnl (F7.1.1 nl hnl) (F7.1.sh hS1 hnl) (by omega) q60, ?_⟩
  intro M11 h11
  have F11 := F7.slides hnl W7 h11
  obtain ⟨_, _, o11, _, r11⟩ := h11
  refine ⟨hB.comes hnb hb hnl ?_ (fun c h8 h9 h10 => ?_), F11, W7.slides, ⟨fun c h8 h9 => ?_, ?_⟩⟩
  · rw [o11 _ (by omega) (by omega), o7 _ (by omega) (by omega) (by omega) (by omega) (by omega) (by omega), e4, mI_sI, up2_row]
  · rw [o11 _ (by omega) (by omega), o7 _ (by omega) (by omega) (by omega) (by omega) (by omega) (by omega), m4 _ (by omega)]
  · rw [o11 _ (by omega) (by omega), o7 _ (by omega) (by omega) (by omega) (by omega) (by omega) (by omega), m4 _ (by omega)]
  · rw [r11, r7, e4]
    rfl
