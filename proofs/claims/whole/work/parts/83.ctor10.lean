/-! the maker of the class's object, the texts' maker supposed -/
theorem nw_RX10_7 : NWc RX10 7 2 := ⟨by decide, RX2, TX2, tyX2, rfl, uw2, tyX2_ok, by decide, (gw_1 (List.mem_of_getElem? (l := tables_1_1) (i := 28) (by decide +kernel)) rfl), (gw_1 (List.mem_of_getElem? (l := tables_1_1) (i := 29) (by decide +kernel)) rfl), (gw_1 (List.mem_of_getElem? (l := tables_1_1) (i := 2) (by decide +kernel)) rfl)⟩
theorem nw_RX10_23 : NWc RX10 23 1 := ⟨by decide, RX1, TX1, tyX1, rfl, uw1, tyX1_ok, by decide, (gw_2 (List.mem_of_getElem? (l := tables_1_2) (i := 18) (by decide +kernel)) rfl), (gw_1 (List.mem_of_getElem? (l := tables_1_1) (i := 79) (by decide +kernel)) rfl), (gw_1 (List.mem_of_getElem? (l := tables_1_1) (i := 4) (by decide +kernel)) rfl)⟩
theorem nw_RX10_30 : NWc RX10 30 7 := ⟨by decide, RX8, TX8, tyX8, rfl, uw7, tyX8_ok, by decide, (gw_2 (List.mem_of_getElem? (l := tables_1_2) (i := 20) (by decide +kernel)) rfl), (gw_2 (List.mem_of_getElem? (l := tables_1_2) (i := 21) (by decide +kernel)) rfl), (gw_1 (List.mem_of_getElem? (l := tables_1_1) (i := 8) (by decide +kernel)) rfl)⟩
theorem cq_RX10_37 : Cond.classLink RX10 37 RX5 ∈ GW := (gw_2 (List.mem_of_getElem? (l := tables_1_2) (i := 81) (by decide +kernel)) rfl)
theorem cq_RX10_44 : Cond.classLink RX10 44 RX6 ∈ GW := (gw_2 (List.mem_of_getElem? (l := tables_1_2) (i := 106) (by decide +kernel)) rfl)
theorem Stg.row {X Xi : Sh} {a z k K N : Nat} (h : Stg X Xi a z) (ha : a < xz X) (hx : xz X ≤ z) : Stg X (xSet (xAdd Xi K N) a k (xz Xi)) a (z + 1) ∧ (∀ c, a < c → c < z → xK (xSet (xAdd Xi K N) a k (xz Xi)) c = xK Xi c ∧ xN (xSet (xAdd Xi K N) a k (xz Xi)) c = xN Xi c ∧ xF (xSet (xAdd Xi K N) a k (xz Xi)) c = xF Xi c) ∧ (∀ k2, k2 ≠ k → xF (xSet (xAdd Xi K N) a k (xz Xi)) a k2 = xF Xi a k2) ∧ xF (xSet (xAdd Xi K N) a k (xz Xi)) a k = some z ∧ xK (xSet (xAdd Xi K N) a k (xz Xi)) z = K ∧ xN (xSet (xAdd Xi K N) a k (xz Xi)) z = N := by
  obtain ⟨h1, h2, h3, h4⟩ := h
  refine ⟨⟨?_, fun c c1 c2 => ?_, ?_, fun c hc => ?_⟩, fun c c1 c2 => ?_, fun k2 hk2 => up2_k _ _ _ hk2, ?_, ?_, ?_⟩
  · show xz Xi + 1 = z + 1
    omega
  · obtain ⟨q1, q2, q3⟩ := h2 c c1 c2
    exact ⟨(va_up_ne _ _ (by omega)).trans q1, (va_up_ne _ _ (by omega)).trans q2, (up2_off _ _ _ c2).trans q3⟩
  · exact ⟨(va_up_ne _ _ (by omega)).trans h3.1, (va_up_ne _ _ (by omega)).trans h3.2⟩
  · exact (up2_off _ _ _ (by omega)).trans (h4 c (by omega))
  · exact ⟨va_up_ne _ _ (by omega), va_up_ne _ _ (by omega), up2_off _ _ _ (by omega)⟩
  · show up2 (xF Xi) a k (some (xz Xi)) a k = _
    rw [up2_same, h1]
  · rw [← h1]
    exact va_up_self _ _ _
  · rw [← h1]
    exact va_up_self _ _ _
/-- what the class's maker leaves in the memory -/
def Mem10 (M M2 : Mm) (a : Nat) : Prop := (∀ c j, a ≤ c → c ≠ a + 86 → c ≠ a + 172 → ¬ (j = 0 ∧ a + 232 ≤ c ∧ c ≤ a + 264) → mI M2 c j = 0) ∧ (∀ i, i < 5 → mI M2 (a + 245 + 4 * i) 0 = 0) ∧ (mI M2 (a + 86) 0 = 60 ∧ mI M2 (a + 86) 1 = 100 ∧ mI M2 (a + 86) 2 = 60) ∧ (∀ i, i < 4 → mI M2 (a + 232 + 3 * i) 0 = -1) ∧ (∀ i, i < 4 → ∀ j, mI M2 (a + 233 + 3 * i) j = 0) ∧ (∀ i, i < 4 → ∀ j, mI M2 (a + 234 + 3 * i) j = 0) ∧ (mJ M2 = mJ M) ∧ (∀ f, f = a + 9 ∨ f = a + 95 ∨ f = a + 173 → ∀ l, l < 24 → mR M2 (f + 1) l = some (f + 2 + 2 * l)) ∧ (∀ c, a + 266 ≤ c → mR M2 c = mR M c) ∧ (∀ c, c < a → mI M2 c = mI M c)
theorem Mem10.zero {M M2 : Mm} {a : Nat} (h : Mem10 M M2 a) : ∀ c j, a ≤ c → c ≠ a + 86 → c ≠ a + 172 → ¬ (j = 0 ∧ a + 232 ≤ c ∧ c ≤ a + 264) → mI M2 c j = 0 := h.1
theorem Mem10.slot {M M2 : Mm} {a : Nat} (h : Mem10 M M2 a) : ∀ i, i < 5 → mI M2 (a + 245 + 4 * i) 0 = 0 := h.2.1
theorem Mem10.rule {M M2 : Mm} {a : Nat} (h : Mem10 M M2 a) : mI M2 (a + 86) 0 = 60 ∧ mI M2 (a + 86) 1 = 100 ∧ mI M2 (a + 86) 2 = 60 := h.2.2.1
theorem Mem10.sheet {M M2 : Mm} {a : Nat} (h : Mem10 M M2 a) : ∀ i, i < 4 → mI M2 (a + 232 + 3 * i) 0 = -1 := h.2.2.2.1
theorem Mem10.value {M M2 : Mm} {a : Nat} (h : Mem10 M M2 a) : ∀ i, i < 4 → ∀ j, mI M2 (a + 233 + 3 * i) j = 0 := h.2.2.2.2.1
theorem Mem10.lost {M M2 : Mm} {a : Nat} (h : Mem10 M M2 a) : ∀ i, i < 4 → ∀ j, mI M2 (a + 234 + 3 * i) j = 0 := h.2.2.2.2.2.1
theorem Mem10.long {M M2 : Mm} {a : Nat} (h : Mem10 M M2 a) : mJ M2 = mJ M := h.2.2.2.2.2.2.1
theorem Mem10.layers {M M2 : Mm} {a : Nat} (h : Mem10 M M2 a) : ∀ f, f = a + 9 ∨ f = a + 95 ∨ f = a + 173 → ∀ l, l < 24 → mR M2 (f + 1) l = some (f + 2 + 2 * l) := h.2.2.2.2.2.2.2.1
theorem Mem10.rest {M M2 : Mm} {a : Nat} (h : Mem10 M M2 a) : ∀ c, a + 266 ≤ c → mR M2 c = mR M c := h.2.2.2.2.2.2.2.2.1
theorem Mem10.below {M M2 : Mm} {a : Nat} (h : Mem10 M M2 a) : ∀ c, c < a → mI M2 c = mI M c := h.2.2.2.2.2.2.2.2.2
theorem cl_X10_init (G : Gl) (d : Nat) (hd : 4 ≤ d) (hTx : ∀ d, 1 ≤ d → TextsMade G d) (X : Sh) (M : Mm) (a : Nat) (ha : xK X a = 9) (hx : xz X = a + 1) (hM : ∀ c j, a ≤ c → mI M c j = 0) (hJ : ∀ c j, a ≤ c → mJ M c j = 0) (hR : ∀ c j, a ≤ c → mR M c j = none) (hF : ∀ c j, a < c → xF X c j = none) : Cl G m_X10_init d 265 100000 [.ref a] X M (fun X2 M2 v => v = none ∧ Mem10 M M2 a ∧ Sh9 X2 a ∧ Mk X X2 a 265) := by
  obtain ⟨d, rfl⟩ : ∃ d1, d = d1 + 1 := ⟨d - 1, by omega⟩
  refine Cl.of (by decide) (Nat.le_of_ble_eq_true rfl) ?_
  refine wp_aload_n 0 dX10_init_0 rfl rfl ?_
  refine wp_objInit dX10_init_1 oi_RX10_1 oi_2 oi_3 (Nat.le_of_ble_eq_true rfl) ?_
  refine wp_aload_n 0 dX10_init_4 rfl rfl ?_
  refine wp_made dX10_init_5 dX10_init_8 dX10_init_9 dX10_init_12 nw_RX10_7 ck_RX10_9 ft_RX10_10 rfl rfl (fun _ => rfl) (fun _ => rfl) ha (by omega) (Nat.le_of_ble_eq_true rfl) (by omega) (by show 0 + 5 + 1816 ≤ 100000; omega) (fun j => hM _ j (by omega)) (fun j => hF _ j (by omega)) (cl_X2_init G d (by omega) hTx (xAdd X 2 0) M (xz X) (va_up_self _ _ _) rfl (fun c j hc => hM c j (by omega)) (fun c j hc => hJ c j (by omega)) (fun c j hc => hR c j (by omega)) (fun c j hc => hF c j (by omega))) (fun X' M' v hQ => ⟨hQ.1, hQ.2.2.2⟩) (fun X1' M1 hQ => ?_)
  obtain ⟨_, ⟨i1, j1, r1, l1⟩, s1, k1⟩ := hQ
  have s1 := sh2_mono s1 (agr_set (k := 0) (t := xz X) (a := a) (Or.inl (by omega)))
  obtain ⟨G1, E1, N1, P1⟩ := (Stg.nil (X := X) (a := a)).made (k := 0) k1 (by omega) (Nat.le_refl _)
  generalize xSet X1' a 0 (xz X) = X1 at *
  rw [hx] at s1 P1 G1 E1 i1 r1 l1
  have G1 : Stg X X1 a (a + 87) := G1
  have z1 : xz X1 = a + 87 := G1.1
  have a1 : xK X1 a = 9 := G1.2.2.1.1.trans ha
  have zM1 : ∀ c j, a + 87 ≤ c → mI M1 c j = 0 := fun c j hc => by
    rw [i1, up2_off _ _ _ (by omega), up2_off _ _ _ (by omega), up2_off _ _ _ (by omega)]
    exact hM c j (by omega)
  have zR1 : ∀ c j, a + 87 ≤ c → mR M1 c j = none := fun c j hc => by
    rw [r1 c (by omega)]
    exact hR c j (by omega)
  refine wp_aload_n 0 dX10_init_15 rfl rfl ?_
  refine wp_made dX10_init_16 dX10_init_19 dX10_init_20 dX10_init_23 nw_RX10_7 ck_RX10_9 ft_RX10_16 rfl rfl (fun _ => rfl) (fun _ => rfl) a1 (by omega) (Nat.le_of_ble_eq_true rfl) (by omega) (by show 0 + 5 + 1816 + 5 + 1816 ≤ 100000; omega) (fun j => zM1 _ j (by omega)) (fun j => by rw [G1.2.2.2 _ (by omega)]; exact hF _ j (by omega)) (cl_X2_init G d (by omega) hTx (xAdd X1 2 0) M1 (xz X1) (va_up_self _ _ _) rfl (fun c j hc => zM1 c j (by omega)) (fun c j hc => by rw [j1]; exact hJ c j (by omega)) (fun c j hc => zR1 c j (by omega)) (fun c j hc => by show xF X1 c j = none; rw [G1.2.2.2 _ (by omega)]; exact hF _ j (by omega))) (fun X' M' v hQ => ⟨hQ.1, hQ.2.2.2⟩) (fun X2' M2 hQ => ?_)
  obtain ⟨_, ⟨i2, j2, r2, l2⟩, s2, k2⟩ := hQ
  have s2 := sh2_mono s2 (agr_set (k := 1) (t := xz X1) (a := a) (Or.inl (by omega)))
  obtain ⟨G2, E2, N2, P2⟩ := G1.made (k := 1) k2 (by omega) (by omega)
  generalize xSet X2' a 1 (xz X1) = X2 at *
  rw [z1] at s2 i2 r2 l2
  have G2 : Stg X X2 a (a + 173) := G2
  have z2 : xz X2 = a + 173 := G2.1
  have a2 : xK X2 a = 9 := G2.2.2.1.1.trans ha
  have zM2 : ∀ c j, a + 173 ≤ c → mI M2 c j = 0 := fun c j hc => by
    rw [i2, up2_off _ _ _ (by omega), up2_off _ _ _ (by omega), up2_off _ _ _ (by omega)]
    exact zM1 c j (by omega)
  have zR2 : ∀ c j, a + 173 ≤ c → mR M2 c j = none := fun c j hc => by
    rw [r2 c (by omega)]
    exact zR1 c j (by omega)
  have az : mI M2 a 2 = 0 := by
    rw [i2, up2_off _ _ _ (by omega), up2_off _ _ _ (by omega), up2_off _ _ _ (by omega), i1, up2_off _ _ _ (by omega), up2_off _ _ _ (by omega), up2_off _ _ _ (by omega)]
    exact hM a 2 (Nat.le_refl _)
  refine wp_aload_n 0 dX10_init_26 rfl rfl ?_
  refine wp_iconst (v := 0) dX10_init_27 rfl ?_
  refine wp_putZ dX10_init_28 fp_RX10_19 rfl a2 (Or.inl rfl) ?_
  rw [sI_0 az]
  refine wp_aload_n 0 dX10_init_31 rfl rfl ?_
  refine wp_made dX10_init_32 dX10_init_35 dX10_init_36 dX10_init_39 nw_RX10_23 ck_RX10_25 ft_RX10_26 rfl rfl (fun _ => rfl) (fun _ => rfl) a2 (by omega) (Nat.le_of_ble_eq_true rfl) (by omega) (by show 0 + 5 + 1816 + 5 + 1816 + 10 + 404 ≤ 100000; omega) (fun j => zM2 _ j (by omega)) (fun j => by rw [G2.2.2.2 _ (by omega)]; exact hF _ j (by omega)) (cl_X1_init G d (by omega) (xAdd X2 1 0) M2 (xz X2) (va_up_self _ _ _) rfl (fun c j hc => zM2 c j (by omega)) (fun c j hc => by rw [j2, j1]; exact hJ c j (by omega)) (fun c j hc => zR2 c j (by omega)) (fun c j hc => by show xF X2 c j = none; rw [G2.2.2.2 _ (by omega)]; exact hF _ j (by omega))) (fun X' M' v hQ => ⟨hQ.1, hQ.2.2.2⟩) (fun X3' M3 hQ => ?_)
  obtain ⟨_, ⟨i3, j3, r3, l3⟩, s3, k3⟩ := hQ
  have s3 := sh1_mono s3 (agr_set (k := 3) (t := xz X2) (a := a) (Or.inl (by omega)))
  obtain ⟨G3, E3, N3, P3⟩ := G2.made (k := 3) k3 (by omega) (by omega)
  generalize xSet X3' a 3 (xz X2) = X3 at *
  rw [z2] at s3 r3 l3
  have G3 : Stg X X3 a (a + 227) := G3
  have z3 : xz X3 = a + 227 := G3.1
  have a3 : xK X3 a = 9 := G3.2.2.1.1.trans ha
  have zM3 : ∀ c j, a + 173 ≤ c → mI M3 c j = 0 := fun c j hc => by
    rw [i3]
    exact zM2 c j hc
  refine wp_aload_n 0 dX10_init_42 rfl rfl ?_
  refine wp_made dX10_init_43 dX10_init_46 dX10_init_47 dX10_init_50 nw_RX10_30 ck_RX10_32 ft_RX10_33 rfl rfl (fun _ => rfl) (fun _ => rfl) a3 (by omega) (Nat.le_of_ble_eq_true rfl) (by omega) (by show 0 + 5 + 1816 + 5 + 1816 + 10 + 404 + 16 + 288 ≤ 100000; omega) (fun j => zM3 _ j (by omega)) (fun j => by rw [G3.2.2.2 _ (by omega)]; exact hF _ j (by omega)) (cl_X8_init G d (by omega) (xAdd X3 7 0) M3 (xz X3) (va_up_self _ _ _) rfl (fun c j hc => zM3 c j (by omega))) (fun X' M' v hQ => ⟨hQ.1, hQ.2.2.mk (by show xz X3 < xz X3 + 1; omega)⟩) (fun X4' M4 hQ => ?_)
  obtain ⟨_, rfl, hl4⟩ := hQ
  have s4 := sh7_mono (sh7_of hl4 rfl (va_up_self _ _ _)) (agr_set (k := 4) (t := xz X3) (a := a) (Or.inl (by omega)))
  obtain ⟨G4, E4, N4, P4⟩ := G3.made (k := 4) (hl4.mk (by show xz X3 < xz X3 + 1; omega)) (by omega) (by omega)
  generalize xSet X4' a 4 (xz X3) = X4 at *
  rw [z3] at s4
  have G4 : Stg X X4 a (a + 231) := G4
  have z4 : xz X4 = a + 231 := G4.1
  have a4 : xK X4 a = 9 := G4.2.2.1.1.trans ha
  refine wp_aload_n 0 dX10_init_53 rfl rfl ?_
  refine wp_iconst (v := 4) dX10_init_54 rfl ?_
  refine wp_newq_Sheet (N := 4) dX10_init_55 cq_RX10_37 rfl (by decide) (by omega) (by show 0 + 5 + 1816 + 5 + 1816 + 10 + 404 + 16 + 288 + 4 ≤ 100000; omega) (fun j => by rw [G4.2.2.2 _ (by omega)]; exact hF _ j (by omega)) ?_
  refine wp_putR dX10_init_58 ft_RX10_39 rfl ((va_up_ne _ _ (by omega)).trans a4) rfl rfl rfl ?_
  obtain ⟨G5, E5, N5, P5, K5, L5⟩ := G4.row (k := 5) (K := 15) (N := 4) (by omega) (by omega)
  generalize xSet (xAdd X4 15 4) a 5 (xz X4) = X5 at *
  have G5 : Stg X X5 a (a + 232) := G5
  have z5 : xz X5 = a + 232 := G5.1
  have a5 : xK X5 a = 9 := G5.2.2.1.1.trans ha
  refine wp_iconst (v := 0) dX10_init_61 rfl ?_
  refine wp_istore_n (lo2 := [(1, .int _), (0, .ref _)]) dX10_init_62 rfl (by decide) rfl ?_
  refine cl_Sheets G d 231 4364 (by omega) (a := a) (z0 := a + 231) (by omega) (by omega) (by omega) a5 P5 (fun c j hc => zM3 c j (by omega)) (fun c j hc => by rw [G5.2.2.2 _ (by omega)]; exact hF c j (by omega)) (fun X6 M6 h6 => ?_) 4 0 X5 M4 rfl ⟨by omega, fun _ _ => ⟨rfl, rfl, rfl⟩, K5, L5, fun j hj => absurd hj (by omega), fun j hj => absurd hj (by omega), fun _ _ => rfl, fun _ _ _ => rfl, fun q hq => absurd hq (by omega), rfl, rfl⟩
  have z6 : xz X6 = a + 244 := h6.z
  have G6 : Stg X X6 a (a + 244) := ⟨z6, fun c c1 c2 => ⟨(h6.old c (by omega)).1.trans (G5.2.1 c c1 c2).1, (h6.old c (by omega)).2.1.trans (G5.2.1 c c1 c2).2.1, (h6.old c (by omega)).2.2.trans (G5.2.1 c c1 c2).2.2⟩, ⟨(h6.old a (by omega)).1.trans G5.2.2.1.1, (h6.old a (by omega)).2.1.trans G5.2.2.1.2⟩, fun c hc => (h6.far c (by omega)).trans (G5.2.2.2 c (by omega))⟩
  have a6 : xK X6 a = 9 := G6.2.2.1.1.trans ha
  refine wp_aload_n 0 dX10_init_87 rfl rfl ?_
  refine wp_iconst (v := 5) dX10_init_88 rfl ?_
  refine wp_newq_Slot (N := 5) dX10_init_89 cq_RX10_44 rfl (by decide) (by omega) (by omega) (fun j => by rw [G6.2.2.2 _ (by omega)]; exact hF _ j (by omega)) ?_
  refine wp_putR dX10_init_92 ft_RX10_46 rfl ((va_up_ne _ _ (by omega)).trans a6) rfl rfl rfl ?_
  obtain ⟨G7, E7, N7, P7, K7, L7⟩ := G6.row (k := 6) (K := 16) (N := 5) (by omega) (by omega)
  generalize xSet (xAdd X6 16 5) a 6 (xz X6) = X7 at *
  have G7 : Stg X X7 a (a + 245) := G7
  have z7 : xz X7 = a + 245 := G7.1
  have a7 : xK X7 a = 9 := G7.2.2.1.1.trans ha
  have zM6 : ∀ c j, a + 243 ≤ c → mI M6 c j = 0 := fun c j hc => by
    rw [h6.mem c j (fun u => by
      obtain ⟨_, q, q1, q2⟩ := u
      omega)]
    exact zM3 c j (by omega)
  refine wp_iconst (v := 0) dX10_init_95 rfl ?_
  refine wp_istore_n (lo2 := [(1, .int _), (0, .ref _)]) dX10_init_96 rfl (by decide) rfl ?_
  refine cl_Slots G d 244 4577 (by omega) (a := a) (z0 := a + 244) (by omega) (by omega) (by omega) a7 P7 (fun c j hc => zM6 c j (by omega)) (fun c j hc => by rw [G7.2.2.2 _ (by omega)]; exact hF c j (by omega)) (fun X8 M8 h8 => ?_) 5 0 X7 M6 rfl ⟨by omega, fun _ _ => ⟨rfl, rfl, rfl⟩, K7, L7, fun j hj => absurd hj (by omega), fun j hj => absurd hj (by omega), fun _ _ => rfl, fun _ _ _ => rfl, fun q hq => absurd hq (by omega), rfl, rfl⟩
  have z8 : xz X8 = a + 265 := h8.z
  have G8 : Stg X X8 a (a + 265) := ⟨z8, fun c c1 c2 => ⟨(h8.old c (by omega)).1.trans (G7.2.1 c c1 c2).1, (h8.old c (by omega)).2.1.trans (G7.2.1 c c1 c2).2.1, (h8.old c (by omega)).2.2.trans (G7.2.1 c c1 c2).2.2⟩, ⟨(h8.old a (by omega)).1.trans G7.2.2.1.1, (h8.old a (by omega)).2.1.trans G7.2.2.1.2⟩, fun c hc => (h8.far c (by omega)).trans (G7.2.2.2 c (by omega))⟩
  have a8 : xK X8 a = 9 := G8.2.2.1.1.trans ha
  have zM8 : ∀ c j, a + 265 ≤ c → mI M8 c j = 0 := fun c j hc => by
    rw [h8.mem c j (fun u => by
      obtain ⟨_, q, q1, q2⟩ := u
      omega)]
    exact zM6 c j (by omega)
  have m8 : ∀ c j, c < a + 232 → mI M8 c j = mI M2 c j := fun c j hc => by
    rw [h8.mem c j (fun u => by
      obtain ⟨_, q, q1, q2⟩ := u
      omega), h6.mem c j (fun u => by
      obtain ⟨_, q, q1, q2⟩ := u
      omega), i3]
  refine wp_aload_n 0 dX10_init_121 rfl rfl ?_
  refine wp_bipush (v := 60) dX10_init_122 rfl ?_
  refine wp_newi (N := 60) dX10_init_124 rfl (by decide) (by omega) (by omega) (fun j => zM8 _ j (by omega)) ?_
  refine wp_putR dX10_init_126 ft_RX10_51 rfl ((va_up_ne _ _ (by omega)).trans a8) rfl rfl rfl ?_
  obtain ⟨G9, E9, N9, P9, K9, L9⟩ := G8.row (k := 7) (K := 11) (N := 60) (by omega) (by omega)
  generalize xSet (xAdd X8 11 60) a 7 (xz X8) = X9 at *
  have z9 : xz X9 = a + 265 + 1 := G9.1
  have a9 : xK X9 a = 9 := G9.2.2.1.1.trans ha
  refine wp_aload_n 0 dX10_init_129 rfl rfl ?_
  refine wp_iconst (v := 0) dX10_init_130 rfl ?_
  have w8 : mI M8 a 8 = 0 := by
    rw [m8 a 8 (by omega), i2, up2_off _ _ _ (by omega), up2_off _ _ _ (by omega), up2_off _ _ _ (by omega), i1, up2_off _ _ _ (by omega), up2_off _ _ _ (by omega), up2_off _ _ _ (by omega)]
    exact hM a 8 (Nat.le_refl _)
  refine wp_put0 dX10_init_131 fp_RX10_55 rfl a9 w8 ?_
  -- what stays of each world
  have e8 : ∀ c, a ≤ c → c < a + 231 → xK X8 c = xK X5 c ∧ xN X8 c = xN X5 c := fun c c1 c2 => by
    obtain ⟨g1, g2, g3⟩ := h8.old c (by omega)
    obtain ⟨q1, q2, q3⟩ := h6.old c (by omega)
    by_cases e : c = a
    · rw [e]
      exact ⟨a8.trans a5.symm, G8.2.2.1.2.trans G5.2.2.1.2.symm⟩
    · obtain ⟨u1, u2, u3⟩ := E7 c (by omega) (by omega)
      exact ⟨g1.trans (u1.trans q1), g2.trans (u2.trans q2)⟩
  have hi : ∀ c, a < c → c < a + 231 → xK X9 c = xK X4 c ∧ xN X9 c = xN X4 c ∧ xF X9 c = xF X4 c := fun c c1 c2 => by
    obtain ⟨p1, p2, p3⟩ := E9 c c1 (by omega)
    obtain ⟨g1, g2, g3⟩ := h8.old c (by omega)
    obtain ⟨u1, u2, u3⟩ := E7 c c1 (by omega)
    obtain ⟨q1, q2, q3⟩ := h6.old c (by omega)
    obtain ⟨v1, v2, v3⟩ := E5 c c1 (by omega)
    exact ⟨p1.trans (g1.trans (u1.trans (q1.trans v1))), p2.trans (g2.trans (u2.trans (q2.trans v2))), p3.trans (g3.trans (u3.trans (q3.trans v3)))⟩
  have lo4 : ∀ c, a < c → c < a + 227 → xK X4 c = xK X3 c ∧ xN X4 c = xN X3 c ∧ xF X4 c = xF X3 c := fun c c1 c2 => E4 c c1 c2
  have mid : ∀ c, a < c → c < a + 244 → a + 231 ≤ c → xK X9 c = xK X6 c ∧ xN X9 c = xN X6 c ∧ xF X9 c = xF X6 c := fun c c1 c2 _ => by
    obtain ⟨p1, p2, p3⟩ := E9 c c1 (by omega)
    obtain ⟨g1, g2, g3⟩ := h8.old c (by omega)
    obtain ⟨u1, u2, u3⟩ := E7 c c1 (by omega)
    exact ⟨p1.trans (g1.trans u1), p2.trans (g2.trans u2), p3.trans (g3.trans u3)⟩
  have fld : ∀ k, k ≠ 5 → k ≠ 6 → k ≠ 7 → xF X9 a k = xF X4 a k := fun k h5 h6' h7 => by
    rw [N9 k h7, (h8.old a (by omega)).2.2, N7 k h6', (h6.old a (by omega)).2.2, N5 k h5]
  refine wp_vret dX10_init_134 rfl rfl (Nat.le_of_ble_eq_true rfl) ⟨rfl, ⟨fun c j c1 c2 c3 c4 => ?_, fun i hi2 => ?_, ?_, fun i hi2 => ?_, fun i hi2 j => ?_, fun i hi2 j => ?_, ?_, fun f hf l hl => ?_, fun c hc => ?_, fun c hc => funext (fun j => ?_)⟩, ⟨a9, ?_, ?_, ?_, ?_, ?_, ?_, ?_, ?_, ?_, ?_, ?_, fun i hi2 => ?_, fun i hi2 => ?_, ?_, ?_, ?_, fun i hi2 => ?_, fun i hi2 => ?_, P9, K9, L9⟩, ⟨by omega, G9.2.1, G9.2.2.1, fun c hc => G9.2.2.2 c (by omega)⟩⟩
  · by_cases q : c < a + 232
    · rw [m8 c j q, i2, up2_off _ _ _ (by omega), up2_off _ _ _ (by omega), up2_off _ _ _ (by omega), i1, up2_off _ _ _ (by omega), up2_off _ _ _ (by omega), up2_off _ _ _ (by omega)]
      exact hM c j c1
    · rw [h8.mem c j (fun u => by
        obtain ⟨u1, q, q1, q2⟩ := u
        omega), h6.mem c j (fun u => by
        obtain ⟨u1, q, q1, q2⟩ := u
        omega)]
      exact zM3 c j (by omega)
  · rw [h8.mem _ _ (fun u => by
      obtain ⟨u1, q, q1, q2⟩ := u
      omega)]
    exact zM6 _ _ (by omega)
  · have e : ∀ j, mI M8 (a + 86) j = up2 (up2 (up2 (mI M) (a + 86) 0 60) (a + 86) 1 100) (a + 86) 2 60 (a + 86) j := fun j => by
      rw [m8 _ _ (by omega), i2, up2_off _ _ _ (by omega), up2_off _ _ _ (by omega), up2_off _ _ _ (by omega), i1]
    exact ⟨by rw [e, up2_k _ _ _ (by omega), up2_k _ _ _ (by omega), up2_same], by rw [e, up2_k _ _ _ (by omega), up2_same], by rw [e, up2_same]⟩
  · rw [h8.mem _ _ (fun u => by
      obtain ⟨u1, q, q1, q2⟩ := u
      omega)]
    exact h6.put i hi2
  · rw [h8.mem _ _ (fun u => by
      obtain ⟨u1, q, q1, q2⟩ := u
      omega), h6.mem _ _ (fun u => by
      obtain ⟨u1, q, q1, q2⟩ := u
      omega)]
    exact zM3 _ _ (by omega)
  · rw [h8.mem _ _ (fun u => by
      obtain ⟨u1, q, q1, q2⟩ := u
      omega), h6.mem _ _ (fun u => by
      obtain ⟨u1, q, q1, q2⟩ := u
      omega)]
    exact zM3 _ _ (by omega)
  · rw [h8.mj, h6.mj, j3, j2, j1]
  · rw [h8.mr, h6.mr]
    rcases hf with rfl | rfl | rfl
    · rw [r3 _ (by omega), r2 _ (by omega)]
      exact l1 l hl
    · rw [r3 _ (by omega)]
      exact l2 l hl
    · exact l3 l hl
  · rw [h8.mr, h6.mr, r3 _ (by omega), r2 _ (by omega), r1 _ (by omega)]
  · rw [m8 c j (by omega), i2, up2_off _ _ _ (by omega), up2_off _ _ _ (by omega), up2_off _ _ _ (by omega), i1, up2_off _ _ _ (by omega), up2_off _ _ _ (by omega), up2_off _ _ _ (by omega)]
  · rw [fld 0 (by decide) (by decide) (by decide), N4 0 (by decide), N3 0 (by decide), N2 0 (by decide), P1]
  · exact sh2_mono s1 (fun c c1 c2 => by
      obtain ⟨q1, q2, q3⟩ := hi c (by omega) (by omega)
      obtain ⟨r1, r2, r3⟩ := lo4 c (by omega) (by omega)
      obtain ⟨u1, u2, u3⟩ := E3 c (by omega) (by omega)
      obtain ⟨v1, v2, v3⟩ := E2 c (by omega) (by omega)
      exact ⟨q1.trans (r1.trans (u1.trans v1)), q2.trans (r2.trans (u2.trans v2)), q3.trans (r3.trans (u3.trans v3))⟩)
  · rw [fld 1 (by decide) (by decide) (by decide), N4 1 (by decide), N3 1 (by decide), P2]
  · exact sh2_mono s2 (fun c c1 c2 => by
      obtain ⟨q1, q2, q3⟩ := hi c (by omega) (by omega)
      obtain ⟨r1, r2, r3⟩ := lo4 c (by omega) (by omega)
      obtain ⟨u1, u2, u3⟩ := E3 c (by omega) (by omega)
      exact ⟨q1.trans (r1.trans u1), q2.trans (r2.trans u2), q3.trans (r3.trans u3)⟩)
  · rw [fld 3 (by decide) (by decide) (by decide), N4 3 (by decide), P3]
  · exact sh1_mono s3 (fun c c1 c2 => by
      obtain ⟨q1, q2, q3⟩ := hi c (by omega) (by omega)
      obtain ⟨r1, r2, r3⟩ := lo4 c (by omega) (by omega)
      exact ⟨q1.trans r1, q2.trans r2, q3.trans r3⟩)
  · rw [fld 4 (by decide) (by decide) (by decide), P4]
  · exact sh7_mono s4 (fun c c1 c2 => hi c (by omega) (by omega))
  · rw [N9 5 (by decide), (h8.old a (by omega)).2.2, N7 5 (by decide), (h6.old a (by omega)).2.2, P5]
  · exact (mid _ (by omega) (by omega) (Nat.le_refl _)).1.trans h6.kr
  · exact (mid _ (by omega) (by omega) (Nat.le_refl _)).2.1.trans h6.nr
  · rw [(mid (a + 231) (by omega) (by omega) (Nat.le_refl _)).2.2, h6.row i hi2]
  · exact sh5_mono (h6.lay i hi2) (fun c c1 c2 => mid c (by omega) (by omega) (by omega))
  · rw [N9 6 (by decide), (h8.old a (by omega)).2.2, P7]
  · exact (E9 (a + 244) (by omega) (by omega)).1.trans h8.kr
  · exact (E9 (a + 244) (by omega) (by omega)).2.1.trans h8.nr
  · rw [(E9 (a + 244) (by omega) (by omega)).2.2, h8.row i hi2]
  · exact sh6_mono (h8.lay i hi2) (fun c c1 c2 => E9 c (by omega) (by omega))
