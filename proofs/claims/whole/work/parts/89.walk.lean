/-! the law's walk from its entry -/
theorem nw_L_7 : NWc "BurdenHouseLaw" 7 9 := ⟨by decide, RX10, TX10, tyX10, rfl, uw9, tyX10_ok, by decide, (gw_1 (List.mem_of_getElem? (l := tables_1_1) (i := 20) (by decide +kernel)) rfl), (gw_1 (List.mem_of_getElem? (l := tables_1_1) (i := 21) (by decide +kernel)) rfl), (gw_1 (List.mem_of_getElem? (l := tables_1_1) (i := 1) (by decide +kernel)) rfl)⟩
theorem nw_L_10 : NWc "BurdenHouseLaw" 10 10 := ⟨by decide, RX11, TX11, tyX11, rfl, uw10, tyX11_ok, by decide, (gw_5 (List.mem_of_getElem? (l := tables_1_5) (i := 154) (by decide +kernel)) rfl), (gw_5 (List.mem_of_getElem? (l := tables_1_5) (i := 155) (by decide +kernel)) rfl), (gw_1 (List.mem_of_getElem? (l := tables_1_1) (i := 11) (by decide +kernel)) rfl)⟩
theorem k0_X10_init : CK0 m_X10_init 0 := ⟨(gw_1 (List.mem_of_getElem? (l := tables_1_1) (i := 1) (by decide +kernel)) rfl), (gw_1 (List.mem_of_getElem? (l := tables_1_1) (i := 24) (by decide +kernel)) rfl), ⟨by decide +kernel, by decide +kernel, by decide +kernel⟩, by decide⟩
theorem cw_L_9 : CKi "BurdenHouseLaw" 9 m_X10_init 0 := ⟨k0_X10_init, (gw_1 (List.mem_of_getElem? (l := tables_1_1) (i := 22) (by decide +kernel)) rfl), (gw_1 (List.mem_of_getElem? (l := tables_1_1) (i := 23) (by decide +kernel)) rfl), rfl, rfl⟩
theorem k0_X11_init : CK0 m_X11_init 0 := ⟨(gw_1 (List.mem_of_getElem? (l := tables_1_1) (i := 11) (by decide +kernel)) rfl), (gw_5 (List.mem_of_getElem? (l := tables_1_5) (i := 158) (by decide +kernel)) rfl), ⟨by decide +kernel, by decide +kernel, by decide +kernel⟩, by decide⟩
theorem cw_L_12 : CKi "BurdenHouseLaw" 12 m_X11_init 0 := ⟨k0_X11_init, (gw_5 (List.mem_of_getElem? (l := tables_1_5) (i := 156) (by decide +kernel)) rfl), (gw_5 (List.mem_of_getElem? (l := tables_1_5) (i := 157) (by decide +kernel)) rfl), rfl, rfl⟩
theorem sh9_mono {X X2 : Sh} {a : Nat} (h : Sh9 X a) (e : Agr X X2 a (a + 266)) : Sh9 X2 a := by
  obtain ⟨h1, h2, h3, h4, h5, h6, h7, h8, h9, h10, h11, h12, h13, h14, h15, h16, h17, h18, h19, h20, h21, h22⟩ := h
  unfold Sh9
  rw [(e a (by omega) (by omega)).1, (e a (by omega) (by omega)).2.2, (e (a + 231) (by omega) (by omega)).1, (e (a + 231) (by omega) (by omega)).2.1, (e (a + 231) (by omega) (by omega)).2.2, (e (a + 244) (by omega) (by omega)).1, (e (a + 244) (by omega) (by omega)).2.1, (e (a + 244) (by omega) (by omega)).2.2, (e (a + 265) (by omega) (by omega)).1, (e (a + 265) (by omega) (by omega)).2.1]
  exact ⟨h1, h2, sh2_mono h3 (e.sub (by omega) (by omega)), h4, sh2_mono h5 (e.sub (by omega) (by omega)), h6, sh1_mono h7 (e.sub (by omega) (by omega)), h8, sh7_mono h9 (e.sub (by omega) (by omega)), h10, h11, h12, h13, fun i hi => sh5_mono (h14 i hi) (e.sub (by omega) (by omega)), h15, h16, h17, h18, fun i hi => sh6_mono (h19 i hi) (e.sub (by omega) (by omega)), h20, h21, h22⟩
theorem law_walk (G : Gl) (d : Nat) (hd : 70 ≤ d) (hL : G.2 23 ≤ 3072) {nm : String} (X : Sh) (M : Mm) (hM : ∀ c j, mI M c j = 0) (hJ : ∀ c j, mJ M c j = 0) (hR : ∀ c j, mR M c j = none) (hF : ∀ c j, xF X c j = none) : Wp G (mLaw nm) (d + 1) 289 200000 0 0 0 [(0, .ref (G.2 22))] [] X M (fun _ _ v => v = some (.int 1)) := by
  refine wp_new (ci := 9) eL_0 nw_L_7 (by omega) (by decide) (fun j => hM _ j) (fun j => hF _ j) ?_
  refine wp_dup eL_3 rfl ?_
  refine wp_callI (b := xz X) (as := []) eL_4 cw_L_9 rfl rfl (Nat.le_of_ble_eq_true rfl) (by omega) (by decide) (cl_X10_init G d (by omega) (fun d hd => cl_X9_init G d hd) (xAdd X 9 0) M (xz X) (va_up_self _ _ _) rfl (fun c j _ => hM c j) (fun c j _ => hJ c j) (fun c j _ => hR c j) (fun c j _ => hF c j)) (fun X' M' v hQ => hQ.2.2.2.z) (fun X1 M1 v1 hQ => ?_)
  obtain ⟨rfl, m10, s9, k9⟩ := hQ
  have z1 : xz X1 = xz X + 1 + 265 := k9.z
  have f1 : ∀ c j, xz X1 ≤ c → xF X1 c j = none := fun c j hc => by
    rw [k9.far c hc]
    exact hF c j
  have n1 : ∀ c j, xz X1 ≤ c → mI M1 c j = 0 := fun c j hc => m10.zero c j (by omega) (by omega) (by omega) (by omega)
  refine wp_astore_n (lo2 := [(1, .ref _), (0, .ref _)]) eL_7 rfl (Nat.le_of_ble_eq_true rfl) rfl ?_
  refine wp_new (ci := 10) eL_8 nw_L_10 (by omega) (by decide) (fun j => n1 _ j (Nat.le_refl _)) (fun j => f1 _ j (Nat.le_refl _)) ?_
  refine wp_dup eL_11 rfl ?_
  refine wp_callI (b := xz X1) (as := []) eL_12 cw_L_12 rfl rfl (Nat.le_of_ble_eq_true rfl) (by omega) (by decide) (cl_X11_init G d (by omega) (xAdd X1 10 0) M1 (xz X1) (va_up_self _ _ _) rfl (fun c j hc => n1 c j hc) (fun c j _ => by rw [m10.long]; exact hJ c j)) (fun X' M' v hQ => hQ.2.2.2.z) (fun X2 M2 v2 hQ => ?_)
  obtain ⟨rfl, e2, s10, k10⟩ := hQ
  have s9b : Sh9 X2 (xz X) := sh9_mono (sh9_mono s9 (agr_add (K := 10) (N := 0) (by omega))) (fun c c1 c2 => k10.old c (by show c < xz X1 + 1; omega) (by omega))
  have hsim : Sim M2 (xz X) (xz X1) := sim_start (new2_of m10 (by omega) (fun c j hc => by rw [m10.below c hc]; exact hM c j) e2)
  refine wp_astore_n (lo2 := [(2, .ref _), (1, .ref _), (0, .ref _)]) eL_15 rfl (Nat.le_of_ble_eq_true rfl) rfl ?_
  refine wp_iconst (v := 0) eL_16 rfl ?_
  refine wp_istore_n (lo2 := [(3, .int _), (2, .ref _), (1, .ref _), (0, .ref _)]) eL_17 rfl (Nat.le_of_ble_eq_true rfl) rfl ?_
  exact law_loop G d hd s9b s10 (by omega) hL rfl (by decide) (fun _ => rfl) 3072 0 M2 (by omega) (by omega) hsim
