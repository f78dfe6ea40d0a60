/-! the maker of a house, the texts' maker supposed -/
def Stg (X Xi : Sh) (a z : Nat) : Prop := xz Xi = z ∧ (∀ c, c < xz X → c ≠ a → xK Xi c = xK X c ∧ xN Xi c = xN X c ∧ xF Xi c = xF X c) ∧ (xK Xi a = xK X a ∧ xN Xi a = xN X a) ∧ ∀ c, z ≤ c → xF Xi c = xF X c
theorem Stg.nil {X : Sh} {a : Nat} : Stg X X a (xz X) := ⟨rfl, fun _ _ _ => ⟨rfl, rfl, rfl⟩, ⟨rfl, rfl⟩, fun _ _ => rfl⟩
theorem Stg.made {X Xi X' : Sh} {a z k n ci2 : Nat} (h : Stg X Xi a z) (hk : Mk (xAdd Xi ci2 0) X' (xz Xi) n) (ha : a < xz X) (hx : xz X ≤ z) : Stg X (xSet X' a k (xz Xi)) a (z + 1 + n) ∧ (∀ c, a < c → c < z → xK (xSet X' a k (xz Xi)) c = xK Xi c ∧ xN (xSet X' a k (xz Xi)) c = xN Xi c ∧ xF (xSet X' a k (xz Xi)) c = xF Xi c) ∧ (∀ k2, k2 ≠ k → xF (xSet X' a k (xz Xi)) a k2 = xF Xi a k2) ∧ xF (xSet X' a k (xz Xi)) a k = some z := by
  obtain ⟨h1, h2, h3, h4⟩ := h
  have e : ∀ c, c < z → xK X' c = xK Xi c ∧ xN X' c = xN Xi c ∧ xF X' c = xF Xi c := fun c hc => by
    obtain ⟨g1, g2, g3⟩ := hk.old c (by show c < xz Xi + 1; omega) (by omega)
    exact ⟨g1.trans (va_up_ne _ _ (by omega)), g2.trans (va_up_ne _ _ (by omega)), g3⟩
  have kz : xz X' = xz Xi + 1 + n := hk.z
  refine ⟨⟨?_, fun c c1 c2 => ?_, ?_, fun c hc => ?_⟩, fun c c1 c2 => ?_, fun k2 hk2 => ?_, ?_⟩
  · show xz X' = z + 1 + n
    omega
  · obtain ⟨g1, g2, g3⟩ := e c (by omega)
    obtain ⟨q1, q2, q3⟩ := h2 c c1 c2
    exact ⟨g1.trans q1, g2.trans q2, (up2_off _ _ _ c2).trans (g3.trans q3)⟩
  · obtain ⟨g1, g2, g3⟩ := e a (by omega)
    exact ⟨g1.trans h3.1, g2.trans h3.2⟩
  · refine (up2_off _ _ _ (by omega)).trans ((hk.far c (by omega)).trans ?_)
    exact h4 c (by omega)
  · obtain ⟨g1, g2, g3⟩ := e c c2
    exact ⟨g1, g2, (up2_off _ _ _ (by omega)).trans g3⟩
  · show up2 (xF X') a k _ a k2 = _
    rw [up2_k _ _ _ hk2, (e a (by omega)).2.2]
  · show up2 (xF X') a k (some (xz Xi)) a k = _
    rw [up2_same, h1]
def TextsMade (G : Gl) (d : Nat) : Prop := ∀ (X : Sh) (M : Mm) (a : Nat), xK X a = 8 → xz X = a + 1 → (∀ c j, a ≤ c → mI M c j = 0) → (∀ c j, a < c → xF X c j = none) → Cl G m_X9_init d 19 1334 [.ref a] X M (fun X2 M2 v => v = none ∧ M2 = M ∧ Sh8 X2 a ∧ Mk X X2 a 19)
theorem cl_X2_init (G : Gl) (d : Nat) (hd : 3 ≤ d) (hTx : ∀ d, 1 ≤ d → TextsMade G d) (X : Sh) (M : Mm) (a : Nat) (ha : xK X a = 2) (hx : xz X = a + 1) (hM : ∀ c j, a ≤ c → mI M c j = 0) (hJ : ∀ c j, a ≤ c → mJ M c j = 0) (hR : ∀ c j, a ≤ c → mR M c j = none) (hF : ∀ c j, a < c → xF X c j = none) : Cl G m_X2_init d 85 1816 [.ref a] X M (fun X2 M2 v => v = none ∧ (mI M2 = up2 (up2 (up2 (mI M) (a + 85) 0 60) (a + 85) 1 100) (a + 85) 2 60 ∧ mJ M2 = mJ M ∧ (∀ c, c ≠ a + 9 → mR M2 c = mR M c) ∧ ∀ l, l < 24 → mR M2 (a + 9) l = some (a + 8 + 2 + 2 * l)) ∧ Sh2 X2 a ∧ Mk X X2 a 85) := by
  obtain ⟨d, rfl⟩ : ∃ d1, d = d1 + 1 := ⟨d - 1, by omega⟩
  refine Cl.of (by decide) (Nat.le_of_ble_eq_true rfl) ?_
  refine wp_aload_n 0 dX2_init_0 rfl rfl ?_
  refine wp_objInit dX2_init_1 oi_RX2_3 oi_2 oi_3 (Nat.le_of_ble_eq_true rfl) ?_
  refine wp_aload_n 0 dX2_init_4 rfl rfl ?_
  refine wp_made dX2_init_5 dX2_init_8 dX2_init_9 dX2_init_12 nw_RX2_9 ck_RX2_11 ft_RX2_12 rfl rfl (fun _ => rfl) (fun _ => rfl) ha (by omega) (Nat.le_of_ble_eq_true rfl) (by omega) (by show 0 + 8 + 33 ≤ 1816; omega) (fun j => hM _ j (by omega)) (fun j => hF _ j (by omega)) (cl_X0_init G d (by omega) (xAdd X 0 0) M (xz X) (va_up_self _ _ _) rfl (fun c j hc => hM c j (by omega))) (fun X' M' v hQ => ⟨hQ.1, hQ.2.2.mk (by show xz X < xz X + 1; omega)⟩) (fun X' M' hQ => ?_)
  obtain ⟨_, rfl, hl⟩ := hQ
  have s0 := sh0_mono (sh0_of hl rfl (va_up_self _ _ _)) (agr_set (k := 0) (t := xz X) (a := a) (Or.inl (by omega)))
  obtain ⟨G1, E1, N1, P1⟩ := (Stg.nil (X := X) (a := a)).made (k := 0) (hl.mk (by show xz X < xz X + 1; omega)) (by omega) (Nat.le_refl _)
  generalize xSet X' a 0 (xz X) = X1 at *
  rw [hx] at s0 P1 G1 E1
  have G1 : Stg X X1 a (a + 8) := G1
  have z1 : xz X1 = a + 8 := G1.1
  have a1 : xK X1 a = 2 := G1.2.2.1.1.trans ha
  refine wp_aload_n 0 dX2_init_15 rfl rfl ?_
  refine wp_made dX2_init_16 dX2_init_19 dX2_init_20 dX2_init_23 nw_RX2_18 ck_RX2_20 ft_RX2_21 rfl rfl (fun _ => rfl) (fun _ => rfl) a1 (by omega) (Nat.le_of_ble_eq_true rfl) (by omega) (by show 0 + 8 + 33 + 10 + 404 ≤ 1816; omega) (fun j => hM _ j (by omega)) (fun j => by rw [G1.2.2.2 _ (by omega)]; exact hF _ j (by omega)) (cl_X1_init G d (by omega) (xAdd X1 1 0) M' (xz X1) (va_up_self _ _ _) rfl (fun c j hc => hM c j (by omega)) (fun c j hc => hJ c j (by omega)) (fun c j hc => hR c j (by omega)) (fun c j hc => by show xF X1 c j = none; rw [G1.2.2.2 _ (by omega)]; exact hF _ j (by omega))) (fun X' M' v hQ => ⟨hQ.1, hQ.2.2.2⟩) (fun X2' M2 hQ => ?_)
  obtain ⟨_, ⟨i1, i2, i3, i4⟩, s1, hk1⟩ := hQ
  have s1 := sh1_mono s1 (agr_set (k := 1) (t := xz X1) (a := a) (Or.inl (by omega)))
  obtain ⟨G2, E2, N2, P2⟩ := G1.made (k := 1) hk1 (by omega) (by omega)
  generalize xSet X2' a 1 (xz X1) = X2 at *
  rw [z1] at s1 i3 i4
  have G2 : Stg X X2 a (a + 62) := G2
  have z2 : xz X2 = a + 62 := G2.1
  have a2 : xK X2 a = 2 := G2.2.2.1.1.trans ha
  have zM : ∀ c j, a ≤ c → mI M2 c j = 0 := fun c j hc => by rw [i1]; exact hM c j hc
  refine wp_aload_n 0 dX2_init_26 rfl rfl ?_
  refine wp_made dX2_init_27 dX2_init_30 dX2_init_31 dX2_init_34 nw_RX2_25 ck_RX2_27 ft_RX2_28 rfl rfl (fun _ => rfl) (fun _ => rfl) a2 (by omega) (Nat.le_of_ble_eq_true rfl) (by omega) (by show 0 + 8 + 33 + 10 + 404 + 8 + 1334 ≤ 1816; omega) (fun j => zM _ j (by omega)) (fun j => by rw [G2.2.2.2 _ (by omega)]; exact hF _ j (by omega)) (hTx d (by omega) (xAdd X2 8 0) M2 (xz X2) (va_up_self _ _ _) rfl (fun c j hc => zM c j (by omega)) (fun c j hc => by show xF X2 c j = none; rw [G2.2.2.2 _ (by omega)]; exact hF _ j (by omega))) (fun X' M' v hQ => ⟨hQ.1, hQ.2.2.2⟩) (fun X3' M3 hQ => ?_)
  obtain ⟨_, rfl, s8, hk2⟩ := hQ
  have s8 := sh8_mono s8 (agr_set (k := 2) (t := xz X2) (a := a) (Or.inl (by omega)))
  obtain ⟨G3, E3, N3, P3⟩ := G2.made (k := 2) hk2 (by omega) (by omega)
  generalize xSet X3' a 2 (xz X2) = X3 at *
  rw [z2] at s8
  have G3 : Stg X X3 a (a + 82) := G3
  have z3 : xz X3 = a + 82 := G3.1
  have a3 : xK X3 a = 2 := G3.2.2.1.1.trans ha
  refine wp_aload_n 0 dX2_init_37 rfl rfl ?_
  refine wp_made dX2_init_38 dX2_init_41 dX2_init_42 dX2_init_45 nw_RX2_32 ck_RX2_34 ft_RX2_35 rfl rfl (fun _ => rfl) (fun _ => rfl) a3 (by omega) (Nat.le_of_ble_eq_true rfl) (by omega) (by show 0 + 8 + 33 + 10 + 404 + 8 + 1334 + 4 + 12 ≤ 1816; omega) (fun j => zM _ j (by omega)) (fun j => by rw [G3.2.2.2 _ (by omega)]; exact hF _ j (by omega)) (cl_X3_init G d (by omega) (xAdd X3 3 0) M3 (xz X3) (va_up_self _ _ _) rfl (fun c j hc => zM c j (by omega))) (fun X' M' v hQ => ⟨hQ.1, hQ.2.2.mk (by show xz X3 < xz X3 + 1; omega)⟩) (fun X4' M4 hQ => ?_)
  obtain ⟨_, rfl, hl3⟩ := hQ
  have s3 := sh3_mono (sh3_of hl3 rfl (va_up_self _ _ _)) (agr_set (k := 3) (t := xz X3) (a := a) (Or.inl (by omega)))
  obtain ⟨G4, E4, N4, P4⟩ := G3.made (k := 3) (hl3.mk (by show xz X3 < xz X3 + 1; omega)) (by omega) (by omega)
  generalize xSet X4' a 3 (xz X3) = X4 at *
  rw [z3] at s3
  have G4 : Stg X X4 a (a + 85) := G4
  have z4 : xz X4 = a + 85 := G4.1
  have a4 : xK X4 a = 2 := G4.2.2.1.1.trans ha
  refine wp_aload_n 0 dX2_init_48 rfl rfl ?_
  refine wp_iconst (v := 3) dX2_init_49 rfl ?_
  refine wp_newi (N := 3) dX2_init_50 rfl (by decide) (by omega) (by show 0 + 8 + 33 + 10 + 404 + 8 + 1334 + 4 + 12 + 3 ≤ 1816; omega) (fun j => zM _ j (by omega)) ?_
  refine wp_dup dX2_init_52 rfl ?_
  refine wp_iconst (v := 0) dX2_init_53 rfl ?_
  refine wp_bipush (v := 60) dX2_init_54 rfl ?_
  refine wp_iast (n := 3) (j := 0) dX2_init_56 (va_up_self _ _ _) (va_up_self _ _ _) (by decide) rfl (by decide) ?_
  refine wp_dup dX2_init_57 rfl ?_
  refine wp_iconst (v := 1) dX2_init_58 rfl ?_
  refine wp_bipush (v := 100) dX2_init_59 rfl ?_
  refine wp_iast (n := 3) (j := 1) dX2_init_61 (va_up_self _ _ _) (va_up_self _ _ _) (by decide) rfl (by decide) ?_
  refine wp_dup dX2_init_62 rfl ?_
  refine wp_iconst (v := 2) dX2_init_63 rfl ?_
  refine wp_bipush (v := 60) dX2_init_64 rfl ?_
  refine wp_iast (n := 3) (j := 2) dX2_init_66 (va_up_self _ _ _) (va_up_self _ _ _) (by decide) rfl (by decide) ?_
  refine wp_putR dX2_init_67 ft_RX2_39 rfl ((va_up_ne _ _ (by omega)).trans a4) rfl rfl rfl ?_
  have e5 : ∀ c, a < c → c < a + 85 → xK (xSet (xAdd X4 11 3) a 4 (xz X4)) c = xK X4 c ∧ xN (xSet (xAdd X4 11 3) a 4 (xz X4)) c = xN X4 c ∧ xF (xSet (xAdd X4 11 3) a 4 (xz X4)) c = xF X4 c := fun c c1 c2 => ⟨va_up_ne _ _ (by omega), va_up_ne _ _ (by omega), up2_off _ _ _ (by omega)⟩
  have f5 : ∀ k, k ≠ 4 → xF (xSet (xAdd X4 11 3) a 4 (xz X4)) a k = xF X4 a k := fun k hk => up2_k _ _ _ hk
  refine wp_vret dX2_init_70 rfl rfl (Nat.le_of_ble_eq_true rfl) ⟨rfl, ⟨?_, i2, i3, i4⟩, ⟨?_, ?_, ?_, ?_, ?_, ?_, ?_, ?_, ?_, ?_, ?_, ?_⟩, ⟨?_, fun c c1 c2 => ?_, ?_, fun c hc => ?_⟩⟩
  · show up2 (up2 (up2 (mI M4) (xz X4) 0 60) (xz X4) 1 100) (xz X4) 2 60 = _
    rw [z4, i1]
  · exact (va_up_ne _ _ (by omega)).trans a4
  · rw [f5 0 (by decide), N4 0 (by decide), N3 0 (by decide), N2 0 (by decide), P1]
  · exact sh0_mono s0 (fun c c1 c2 => by
      obtain ⟨q1, q2, q3⟩ := e5 c (by omega) (by omega)
      obtain ⟨r1, r2, r3⟩ := E4 c (by omega) (by omega)
      obtain ⟨u1, u2, u3⟩ := E3 c (by omega) (by omega)
      obtain ⟨v1, v2, v3⟩ := E2 c (by omega) (by omega)
      exact ⟨q1.trans (r1.trans (u1.trans v1)), q2.trans (r2.trans (u2.trans v2)), q3.trans (r3.trans (u3.trans v3))⟩)
  · rw [f5 1 (by decide), N4 1 (by decide), N3 1 (by decide), P2]
  · exact sh1_mono s1 (fun c c1 c2 => by
      obtain ⟨q1, q2, q3⟩ := e5 c (by omega) (by omega)
      obtain ⟨r1, r2, r3⟩ := E4 c (by omega) (by omega)
      obtain ⟨u1, u2, u3⟩ := E3 c (by omega) (by omega)
      exact ⟨q1.trans (r1.trans u1), q2.trans (r2.trans u2), q3.trans (r3.trans u3)⟩)
  · rw [f5 2 (by decide), N4 2 (by decide), P3]
  · exact sh8_mono s8 (fun c c1 c2 => by
      obtain ⟨q1, q2, q3⟩ := e5 c (by omega) (by omega)
      obtain ⟨r1, r2, r3⟩ := E4 c (by omega) (by omega)
      exact ⟨q1.trans r1, q2.trans r2, q3.trans r3⟩)
  · rw [f5 3 (by decide), P4]
  · exact sh3_mono s3 (fun c c1 c2 => e5 c (by omega) (by omega))
  · show up2 (xF X4) a 4 (some (xz X4)) a 4 = _
    rw [up2_same, z4]
  · show va_up (xK X4) (xz X4) 11 (a + 85) = 11
    rw [z4]
    exact va_up_self _ _ _
  · show va_up (xN X4) (xz X4) 3 (a + 85) = 3
    rw [z4]
    exact va_up_self _ _ _
  · show xz X4 + 1 = xz X + 85
    omega
  · obtain ⟨q1, q2, q3⟩ := G4.2.1 c c1 c2
    exact ⟨(va_up_ne _ _ (by omega)).trans q1, (va_up_ne _ _ (by omega)).trans q2, (up2_off _ _ _ c2).trans q3⟩
  · exact ⟨(va_up_ne _ _ (by omega)).trans G4.2.2.1.1, (va_up_ne _ _ (by omega)).trans G4.2.2.1.2⟩
  · have hc : xz X4 + 1 ≤ c := hc
    exact (up2_off _ _ _ (by omega)).trans (G4.2.2.2 c (by omega))
