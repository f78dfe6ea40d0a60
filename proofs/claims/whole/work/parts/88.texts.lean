/-! the texts' maker: rows, and a row of rows in the midst -/
theorem ft_RX9_9 : FLt RX9 9 8 0 true (tyX9 0) := ⟨by decide, by decide, RX9, TX9, tyX9, rfl, uw8, fw_RX9_9, rfl, rfl, tyX9_ok 0 (by decide), tyX9_ok, nmX9⟩
theorem ft_RX9_15 : FLt RX9 15 8 1 true (tyX9 1) := ⟨by decide, by decide, RX9, TX9, tyX9, rfl, uw8, fw_RX9_15, rfl, rfl, tyX9_ok 1 (by decide), tyX9_ok, nmX9⟩
theorem ft_RX9_18 : FLt RX9 18 8 2 true (tyX9 2) := ⟨by decide, by decide, RX9, TX9, tyX9, rfl, uw8, fw_RX9_18, rfl, rfl, tyX9_ok 2 (by decide), tyX9_ok, nmX9⟩
theorem ft_RX9_23 : FLt RX9 23 8 3 true (tyX9 3) := ⟨by decide, by decide, RX9, TX9, tyX9, rfl, uw8, fw_RX9_23, rfl, rfl, tyX9_ok 3 (by decide), tyX9_ok, nmX9⟩
theorem ft_RX9_26 : FLt RX9 26 8 4 true (tyX9 4) := ⟨by decide, by decide, RX9, TX9, tyX9, rfl, uw8, fw_RX9_26, rfl, rfl, tyX9_ok 4 (by decide), tyX9_ok, nmX9⟩
theorem ft_RX9_33 : FLt RX9 33 8 6 true (tyX9 6) := ⟨by decide, by decide, RX9, TX9, tyX9, rfl, uw8, fw_RX9_33, rfl, rfl, tyX9_ok 6 (by decide), tyX9_ok, nmX9⟩
theorem ft_RX9_36 : FLt RX9 36 8 7 true (tyX9 7) := ⟨by decide, by decide, RX9, TX9, tyX9, rfl, uw8, fw_RX9_36, rfl, rfl, tyX9_ok 7 (by decide), tyX9_ok, nmX9⟩
theorem cq_RX9_21 : Cond.classLink RX9 21 "[[I" ∈ GW := (gw_1 (List.mem_of_getElem? (l := tables_1_1) (i := 184) (by decide +kernel)) rfl)
theorem cl_X9_init (G : Gl) (d : Nat) (hd : 1 ≤ d) : TextsMade G d := by
  intro X M a ha hx hM hF
  obtain ⟨d, rfl⟩ : ∃ d1, d = d1 + 1 := ⟨d - 1, by omega⟩
  have L0 := Lay.nil X a
  have hz0 : ∀ c j, xz X ≤ c → mI M c j = 0 := fun c j hc => hM c j (by omega)
  refine Cl.of (by decide) (Nat.le_of_ble_eq_true rfl) ?_
  refine wp_aload_n 0 dX9_init_0 rfl rfl ?_
  refine wp_objInit dX9_init_1 oi_RX9_3 oi_2 oi_3 (Nat.le_of_ble_eq_true rfl) ?_
  refine wp_aload_n 0 dX9_init_4 rfl rfl ?_
  refine wp_bipush (v := 12) dX9_init_5 rfl ?_
  refine wp_rowi (k := 0) (N := 12) dX9_init_7 dX9_init_9 ft_RX9_9 rfl ha L0 (by omega) (by decide) rfl rfl (by decide) (by omega) (by omega) hz0 (fun X1 L1 => ?_)
  refine wp_aload_n 0 dX9_init_12 rfl rfl ?_
  refine wp_bipush (v := 12) dX9_init_13 rfl ?_
  refine wp_rowi (k := 1) (N := 12) dX9_init_15 dX9_init_17 ft_RX9_15 rfl ha L1 (by omega) (by decide) rfl rfl (by decide) (by omega) (by omega) hz0 (fun X2 L2 => ?_)
  refine wp_aload_n 0 dX9_init_20 rfl rfl ?_
  refine wp_bipush (v := 12) dX9_init_21 rfl ?_
  refine wp_rowi (k := 2) (N := 12) dX9_init_23 dX9_init_25 ft_RX9_18 rfl ha L2 (by omega) (by decide) rfl rfl (by decide) (by omega) (by omega) hz0 (fun X3 L3 => ?_)
  have z3 : xz X3 = a + 4 := by
    rw [L3.z, hx]
    rfl
  have a3 : xK X3 a = 8 := (L3.old a (by omega)).1.trans ha
  refine wp_aload_n 0 dX9_init_28 rfl rfl ?_
  refine wp_bipush (v := 12) dX9_init_29 rfl ?_
  refine wp_bipush (v := 96) dX9_init_31 rfl ?_
  refine wp_mna (N := 12) (K := 96) dX9_init_33 cq_RX9_21 rfl rfl (by decide) (by decide) (by omega) (by omega) (fun c j hc => hz0 c j (by omega)) ?_
  have mk : xK (xMna X3 12 96) a = 8 := ((if_neg (by omega)).trans (if_neg (by omega))).trans a3
  refine wp_putR (k := 3) (ci := 8) dX9_init_37 ft_RX9_23 rfl mk rfl rfl rfl ?_
  have zY : xz (xSet (xMna X3 12 96) a 3 (xz X3)) = a + 17 := by
    show xz X3 + 1 + 12 = _
    omega
  have oY : ∀ c, c < a + 4 → xK (xSet (xMna X3 12 96) a 3 (xz X3)) c = xK X3 c ∧ xN (xSet (xMna X3 12 96) a 3 (xz X3)) c = xN X3 c := fun c hc => ⟨(if_neg (by omega)).trans (if_neg (by omega)), (if_neg (by omega)).trans (if_neg (by omega))⟩
  have fY : ∀ c, c ≠ a → c ≠ a + 4 → xF (xSet (xMna X3 12 96) a 3 (xz X3)) c = xF X3 c := fun c c1 c2 => (up2_off _ _ _ c1).trans (if_neg (by omega))
  have kY : ∀ k, k ≠ 3 → xF (xSet (xMna X3 12 96) a 3 (xz X3)) a k = xF X3 a k := fun k hk => (up2_k _ _ _ hk).trans (congrFun (if_neg (by omega)) k)
  have pY : xF (xSet (xMna X3 12 96) a 3 (xz X3)) a 3 = some (a + 4) := (up2_same _ _ _ _).trans (congrArg some z3)
  have rK : xK (xSet (xMna X3 12 96) a 3 (xz X3)) (a + 4) = 17 := if_pos z3.symm
  have rN : xN (xSet (xMna X3 12 96) a 3 (xz X3)) (a + 4) = 12 := if_pos z3.symm
  have rF : ∀ i, i < 12 → xF (xSet (xMna X3 12 96) a 3 (xz X3)) (a + 4) i = some (a + 5 + i) := fun i hi => by
    refine (up2_a _ _ _ _ (by omega)).trans ((congrFun (if_pos z3.symm) i).trans ((if_pos hi).trans ?_))
    rw [z3]
  have iK : ∀ i, i < 12 → xK (xSet (xMna X3 12 96) a 3 (xz X3)) (a + 5 + i) = 11 := fun i hi => (if_neg (by omega)).trans (if_pos ⟨by omega, by omega⟩)
  have iN : ∀ i, i < 12 → xN (xSet (xMna X3 12 96) a 3 (xz X3)) (a + 5 + i) = 96 := fun i hi => (if_neg (by omega)).trans (if_pos ⟨by omega, by omega⟩)
  have aY : xK (xSet (xMna X3 12 96) a 3 (xz X3)) a = 8 := (oY a (by omega)).1.trans a3
  have K0 := Lay.nil (xSet (xMna X3 12 96) a 3 (xz X3)) a
  generalize xSet (xMna X3 12 96) a 3 (xz X3) = Y at *
  have hzY : ∀ c j, xz Y ≤ c → mI M c j = 0 := fun c j hc => hM c j (by omega)
  refine wp_aload_n 0 dX9_init_40 rfl rfl ?_
  refine wp_bipush (v := 12) dX9_init_41 rfl ?_
  refine wp_rowi (k := 4) (N := 12) dX9_init_43 dX9_init_45 ft_RX9_26 rfl aY K0 (by omega) (by decide) rfl rfl (by decide) (by omega) (by omega) hzY (fun X4 K1 => ?_)
  refine wp_aload_n 0 dX9_init_48 rfl rfl ?_
  refine wp_iconst (v := 0) dX9_init_49 rfl ?_
  refine wp_put0 dX9_init_50 fp_RX9_29 rfl ((K1.old a (by omega)).1.trans aY) (hM a 5 (Nat.le_refl _)) ?_
  refine wp_aload_n 0 dX9_init_53 rfl rfl ?_
  refine wp_bipush (v := 26) dX9_init_54 rfl ?_
  refine wp_rowi (k := 6) (N := 26) dX9_init_56 dX9_init_58 ft_RX9_33 rfl aY K1 (by omega) (by decide) rfl rfl (by decide) (by omega) (by omega) hzY (fun X5 K2 => ?_)
  refine wp_aload_n 0 dX9_init_61 rfl rfl ?_
  refine wp_bipush (v := 96) dX9_init_62 rfl ?_
  refine wp_rowi (k := 7) (N := 96) dX9_init_64 dX9_init_66 ft_RX9_36 rfl aY K2 (by omega) (by decide) rfl rfl (by decide) (by omega) (by omega) hzY (fun X6 K3 => ?_)
  have g := L3.got
  rw [hx] at g
  have q := K3.got
  rw [zY] at q
  have z6 : xz X6 = a + 20 := by
    rw [K3.z, zY]
    rfl
  have e0 : ∀ c, c < a + 4 → xK X6 c = xK X3 c ∧ xN X6 c = xN X3 c := fun c hc => ⟨(K3.old c (by omega)).1.trans (oY c hc).1, (K3.old c (by omega)).2.trans (oY c hc).2⟩
  have f0 : ∀ k, k ≠ 3 → k ≠ 4 → k ≠ 6 → k ≠ 7 → xF X6 a k = xF X3 a k := fun k k3 k4 k6 k7 => (K3.oldk k (fun p hp => by
    simp only [List.nil_append, List.cons_append, List.mem_cons, List.not_mem_nil, or_false] at hp
    rcases hp with rfl | rfl | rfl
    · exact fun e => k4 e.symm
    · exact fun e => k6 e.symm
    · exact fun e => k7 e.symm)).trans (kY k k3)
  refine wp_vret dX9_init_69 rfl rfl (Nat.le_refl _) ⟨rfl, rfl, ⟨?_, ?_, ?_, ?_, ?_, ?_, ?_, ?_, ?_, ?_, ?_, ?_, ?_, fun i hi => ?_, fun i hi => ?_, fun i hi => ?_, ?_, ?_, ?_, ?_, ?_, ?_, ?_, ?_, ?_⟩, ⟨?_, fun c c1 c2 => ⟨?_, ?_, ?_⟩, ⟨?_, ?_⟩, fun c hc => ?_⟩⟩
  · exact (e0 a (by omega)).1.trans a3
  · exact (f0 0 (by decide) (by decide) (by decide) (by decide)).trans (g 0 (by decide)).2.2
  · exact (e0 _ (by omega)).1.trans (g 0 (by decide)).1
  · exact (e0 _ (by omega)).2.trans (g 0 (by decide)).2.1
  · exact (f0 1 (by decide) (by decide) (by decide) (by decide)).trans (g 1 (by decide)).2.2
  · exact (e0 _ (by omega)).1.trans (g 1 (by decide)).1
  · exact (e0 _ (by omega)).2.trans (g 1 (by decide)).2.1
  · exact (f0 2 (by decide) (by decide) (by decide) (by decide)).trans (g 2 (by decide)).2.2
  · exact (e0 _ (by omega)).1.trans (g 2 (by decide)).1
  · exact (e0 _ (by omega)).2.trans (g 2 (by decide)).2.1
  · refine (K3.oldk 3 (fun p hp => ?_)).trans pY
    simp only [List.nil_append, List.cons_append, List.mem_cons, List.not_mem_nil, or_false] at hp
    rcases hp with rfl | rfl | rfl <;> decide
  · exact (K3.old _ (by omega)).1.trans rK
  · exact (K3.old _ (by omega)).2.trans rN
  · rw [K3.oldF _ (by omega)]
    exact rF i hi
  · exact (K3.old _ (by omega)).1.trans (iK i hi)
  · exact (K3.old _ (by omega)).2.trans (iN i hi)
  · exact (q 0 (by decide)).2.2
  · exact (q 0 (by decide)).1
  · exact (q 0 (by decide)).2.1
  · exact (q 1 (by decide)).2.2
  · exact (q 1 (by decide)).1
  · exact (q 1 (by decide)).2.1
  · exact (q 2 (by decide)).2.2
  · exact (q 2 (by decide)).1
  · exact (q 2 (by decide)).2.1
  · omega
  · exact (e0 c (by omega)).1.trans (L3.old c c1).1
  · exact (e0 c (by omega)).2.trans (L3.old c c1).2
  · exact (K3.oldF c c2).trans ((fY c c2 (by omega)).trans (L3.oldF c c2))
  · exact (e0 a (by omega)).1.trans (L3.old a (by omega)).1
  · exact (e0 a (by omega)).2.trans (L3.old a (by omega)).2
  · exact (K3.oldF c (by omega)).trans ((fY c (by omega) (by omega)).trans (L3.oldF c (by omega)))
