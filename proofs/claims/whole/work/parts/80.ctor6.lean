/-! makers of objects whose parts are objects -/
theorem nw_RX6_15 : NWc RX6 15 5 := ⟨by decide, RX5, TX5, tyX5, rfl, uw5, tyX5_ok, by decide, (gw_2 (List.mem_of_getElem? (l := tables_1_2) (i := 113) (by decide +kernel)) rfl), (gw_2 (List.mem_of_getElem? (l := tables_1_2) (i := 83) (by decide +kernel)) rfl), (gw_1 (List.mem_of_getElem? (l := tables_1_1) (i := 9) (by decide +kernel)) rfl)⟩
theorem nw_RX2_9 : NWc RX2 9 0 := ⟨by decide, RX0, TX0, tyX0, rfl, uw0, tyX0_ok, by decide, (gw_1 (List.mem_of_getElem? (l := tables_1_1) (i := 34) (by decide +kernel)) rfl), (gw_1 (List.mem_of_getElem? (l := tables_1_1) (i := 35) (by decide +kernel)) rfl), (gw_1 (List.mem_of_getElem? (l := tables_1_1) (i := 3) (by decide +kernel)) rfl)⟩
theorem nw_RX2_18 : NWc RX2 18 1 := ⟨by decide, RX1, TX1, tyX1, rfl, uw1, tyX1_ok, by decide, (gw_1 (List.mem_of_getElem? (l := tables_1_1) (i := 78) (by decide +kernel)) rfl), (gw_1 (List.mem_of_getElem? (l := tables_1_1) (i := 79) (by decide +kernel)) rfl), (gw_1 (List.mem_of_getElem? (l := tables_1_1) (i := 4) (by decide +kernel)) rfl)⟩
theorem nw_RX2_25 : NWc RX2 25 8 := ⟨by decide, RX9, TX9, tyX9, rfl, uw8, tyX9_ok, by decide, (gw_1 (List.mem_of_getElem? (l := tables_1_1) (i := 178) (by decide +kernel)) rfl), (gw_1 (List.mem_of_getElem? (l := tables_1_1) (i := 179) (by decide +kernel)) rfl), (gw_1 (List.mem_of_getElem? (l := tables_1_1) (i := 6) (by decide +kernel)) rfl)⟩
theorem nw_RX2_32 : NWc RX2 32 3 := ⟨by decide, RX3, TX3, tyX3, rfl, uw3, tyX3_ok, by decide, (gw_1 (List.mem_of_getElem? (l := tables_1_1) (i := 215) (by decide +kernel)) rfl), (gw_1 (List.mem_of_getElem? (l := tables_1_1) (i := 216) (by decide +kernel)) rfl), (gw_1 (List.mem_of_getElem? (l := tables_1_1) (i := 7) (by decide +kernel)) rfl)⟩
theorem ft_RX6_18 : FLt RX6 18 6 4 true (tyX6 4) := ⟨by decide, by decide, RX6, TX6, tyX6, rfl, uw6, fw_RX6_18, rfl, rfl, tyX6_ok 4 (by decide), tyX6_ok, nmX6⟩
theorem ft_RX2_12 : FLt RX2 12 2 0 true (tyX2 0) := ⟨by decide, by decide, RX2, TX2, tyX2, rfl, uw2, fw_RX2_12, rfl, rfl, tyX2_ok 0 (by decide), tyX2_ok, nmX2⟩
theorem ft_RX2_21 : FLt RX2 21 2 1 true (tyX2 1) := ⟨by decide, by decide, RX2, TX2, tyX2, rfl, uw2, fw_RX2_21, rfl, rfl, tyX2_ok 1 (by decide), tyX2_ok, nmX2⟩
theorem ft_RX2_28 : FLt RX2 28 2 2 true (tyX2 2) := ⟨by decide, by decide, RX2, TX2, tyX2, rfl, uw2, fw_RX2_28, rfl, rfl, tyX2_ok 2 (by decide), tyX2_ok, nmX2⟩
theorem ft_RX2_35 : FLt RX2 35 2 3 true (tyX2 3) := ⟨by decide, by decide, RX2, TX2, tyX2, rfl, uw2, fw_RX2_35, rfl, rfl, tyX2_ok 3 (by decide), tyX2_ok, nmX2⟩
theorem ft_RX2_39 : FLt RX2 39 2 4 true (tyX2 4) := ⟨by decide, by decide, RX2, TX2, tyX2, rfl, uw2, fw_RX2_39, rfl, rfl, tyX2_ok 4 (by decide), tyX2_ok, nmX2⟩
section MADE
variable {G : Gl} {y : Md} {d mc ms ce sl pc : Nat} {lo : List (Nat × Value)} {st : List Value} {X : Sh} {M : Mm} {Q : Sh → Mm → Option Value → Prop}
/-- new, dup, the maker, putfield -/
theorem wp_made {a ci k i1 i2 i3 ci2 mc2 ms2 : Nat} {y2 : Md} {ty : FieldType} {Q1 : Sh → Mm → Option Value → Prop} (hd1 : decode y.2.1 pc = .ok (.new i1, 3)) (hd2 : decode y.2.1 (pc + 3) = .ok (.dup, 1)) (hd3 : decode y.2.1 (pc + 3 + 1) = .ok (.invokespecial i2, 3)) (hd4 : decode y.2.1 (pc + 3 + 1 + 3) = .ok (.putfield i3, 3)) (hw : NWc y.1.cls i1 ci2) (hc : CKi y.1.cls i2 y2 0) (hf : FLt y.1.cls i3 ci k true ty) (hr : fRef ci k = true) (hni : y.1.name = "<init>") (hn : ∀ t, narrow ty (.ref t) = .ref t) (hfit : ∀ t, fits ty (.ref t) = true) (ha : xK X a = ci) (hax : a < xz X) (hc8 : ((Value.ref (xz X) :: .ref a :: st).map fun v => v.category).sum ≤ 8) (h1 : ce + 1 + mc2 ≤ mc) (h2 : sl + nFd ci2 + ms2 ≤ ms) (hz0 : ∀ j, mI M (xz X) j = 0) (hz1 : ∀ j, xF X (xz X) j = none)
    (hM : Cl G y2 d mc2 ms2 [.ref (xz X)] (xAdd X ci2 0) M Q1) (hmk : ∀ X' M' v, Q1 X' M' v → v = none ∧ Mk (xAdd X ci2 0) X' (xz X) mc2) (kk : ∀ X' M', Q1 X' M' none → Wp G y (d + 1) mc ms (ce + 1 + mc2) (sl + nFd ci2 + ms2) (pc + 3 + 1 + 3 + 3) lo st (xSet X' a k (xz X)) M' Q) : Wp G y (d + 1) mc ms ce sl pc lo (.ref a :: st) X M Q := by
  refine wp_new hd1 hw (by omega) (by omega) hz0 hz1 ?_
  refine wp_dup hd2 rfl ?_
  refine wp_callI (b := xz X) (as := []) hd3 hc rfl rfl hc8 h1 h2 hM (fun X' M' v hQ => ?_) (fun X' M' v hQ => ?_)
  · exact (hmk X' M' v hQ).2.z
  · obtain ⟨rfl, hk⟩ := hmk X' M' v hQ
    have ka : xK X' a = ci := by
      rw [(hk.old a (by show a < xz X + 1; omega) (by omega)).1]
      exact (va_up_ne _ _ (by omega)).trans ha
    exact wp_putR hd4 hf hr ka hni (hn _) (hfit _) (kk X' M' hQ)
end MADE
theorem cl_X6_init (G : Gl) (d : Nat) (hd : 2 ≤ d) (X : Sh) (M : Mm) (a : Nat) (ha : xK X a = 6) (hx : xz X = a + 1) (hM : ∀ c j, a ≤ c → mI M c j = 0) (hF : ∀ c j, a < c → xF X c j = none) : Cl G m_X6_init d 3 52 [.ref a] X M (fun X2 M2 v => v = none ∧ M2 = sI M (a + 1) 0 (-1) ∧ Sh6 X2 a ∧ Mk X X2 a 3) := by
  obtain ⟨d, rfl⟩ : ∃ d1, d = d1 + 1 := ⟨d - 1, by omega⟩
  refine Cl.of (by decide) (Nat.le_of_ble_eq_true rfl) ?_
  refine wp_aload_n 0 dX6_init_0 rfl rfl ?_
  refine wp_objInit dX6_init_1 oi_RX6_3 oi_2 oi_3 (Nat.le_of_ble_eq_true rfl) ?_
  refine wp_aload_n 0 dX6_init_4 rfl rfl ?_
  refine wp_iconst (v := 0) dX6_init_5 rfl ?_
  refine wp_put0 dX6_init_6 fp_RX6_9 rfl ha (hM a _ (Nat.le_refl _)) ?_
  refine wp_aload_n 0 dX6_init_9 rfl rfl ?_
  refine wp_made dX6_init_10 dX6_init_13 dX6_init_14 dX6_init_17 nw_RX6_15 ck_RX6_17 ft_RX6_18 rfl rfl (fun _ => rfl) (fun _ => rfl) ha (by omega) (Nat.le_of_ble_eq_true rfl) (by omega) (by show 0 + 4 + 48 ≤ 52; omega) (fun j => hM _ j (by omega)) (fun j => hF _ j (by omega)) (cl_X5_init G d (by omega) (xAdd X 5 0) M (xz X) (va_up_self _ _ _) rfl (fun c j hc => hM c j (by omega))) (fun X' M' v hQ => ⟨hQ.1, hQ.2.2.mk (by show xz X < xz X + 1; omega)⟩) (fun X' M' hQ => ?_)
  obtain ⟨_, rfl, hl⟩ := hQ
  have hlz : xz X' = xz X + 1 + 2 := hl.z
  have s5 := sh5_of hl rfl (va_up_self _ _ _)
  rw [hx] at s5
  refine wp_vret dX6_init_20 rfl rfl (by decide) ⟨rfl, by rw [hx], ⟨?_, ?_, ?_⟩, ⟨?_, fun c h1 h2 => ?_, ?_, fun c hc => ?_⟩⟩
  · exact ((hl.old a (by show a < xz X + 1; omega)).1.trans (va_up_ne _ _ (by omega))).trans ha
  · show up2 (xF X') a 4 (some (xz X)) a 4 = _
    rw [up2_same, hx]
  · exact sh5_mono s5 (agr_set (Or.inl (by omega)))
  · show xz X' = xz X + 3
    omega
  · have hF2 : xF (xSet X' a 4 (xz X)) c = xF X c := (up2_off _ _ _ h2).trans (hl.oldF c (by omega))
    exact ⟨(hl.old c (by show c < xz X + 1; omega)).1.trans (va_up_ne _ _ (by omega)), (hl.old c (by show c < xz X + 1; omega)).2.trans (va_up_ne _ _ (by omega)), hF2⟩
  · exact ⟨(hl.old a (by show a < xz X + 1; omega)).1.trans (va_up_ne _ _ (by omega)), (hl.old a (by show a < xz X + 1; omega)).2.trans (va_up_ne _ _ (by omega))⟩
  · have hc : xz X' ≤ c := hc
    exact (up2_off _ _ _ (by omega)).trans (hl.oldF c (by omega))
