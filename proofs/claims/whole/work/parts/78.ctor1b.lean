/-! the maker of a furnace -/
theorem nw_RX1_24 : NWc RX1 24 4 := ⟨by decide, RX4, TX4, tyX4, rfl, uw4, tyX4_ok, by decide, (gw_1 (List.mem_of_getElem? (l := tables_1_1) (i := 84) (by decide +kernel)) rfl), (gw_1 (List.mem_of_getElem? (l := tables_1_1) (i := 86) (by decide +kernel)) rfl), (gw_1 (List.mem_of_getElem? (l := tables_1_1) (i := 5) (by decide +kernel)) rfl)⟩
theorem cq_RX1_24 : Cond.classLink RX1 24 RX4 ∈ GW := (gw_1 (List.mem_of_getElem? (l := tables_1_1) (i := 84) (by decide +kernel)) rfl)
theorem ft_RX1_26 : FLt RX1 26 1 4 true (tyX1 4) := ⟨by decide, by decide, RX1, TX1, tyX1, rfl, uw1, fw_RX1_26, rfl, rfl, tyX1_ok 4 (by decide), tyX1_ok, nmX1⟩
theorem ft_RX1_34 : FLt RX1 34 1 6 true (tyX1 6) := ⟨by decide, by decide, RX1, TX1, tyX1, rfl, uw1, fw_RX1_34, rfl, rfl, tyX1_ok 6 (by decide), tyX1_ok, nmX1⟩
theorem ft_RX1_38 : FLt RX1 38 1 7 true (tyX1 7) := ⟨by decide, by decide, RX1, TX1, tyX1, rfl, uw1, fw_RX1_38, rfl, rfl, tyX1_ok 7 (by decide), tyX1_ok, nmX1⟩
theorem ft_RX1_41 : FLt RX1 41 1 8 true (tyX1 8) := ⟨by decide, by decide, RX1, TX1, tyX1, rfl, uw1, fw_RX1_41, rfl, rfl, tyX1_ok 8 (by decide), tyX1_ok, nmX1⟩
theorem ft_RX1_45 : FLt RX1 45 1 9 true (tyX1 9) := ⟨by decide, by decide, RX1, TX1, tyX1, rfl, uw1, fw_RX1_45, rfl, rfl, tyX1_ok 9 (by decide), tyX1_ok, nmX1⟩
/-- so many layers of the furnace at a are made -/
def FLp (X Xi : Sh) (M Mi : Mm) (a i : Nat) : Prop := (xz Xi = a + 2 + 2 * i) ∧ (∀ c, c < a → xK Xi c = xK X c ∧ xN Xi c = xN X c ∧ xF Xi c = xF X c) ∧ (xK Xi a = xK X a ∧ xN Xi a = xN X a) ∧ (xF Xi a 4 = some (a + 1)) ∧ (xK Xi (a + 1) = 14) ∧ (xN Xi (a + 1) = 24) ∧ (∀ j, j < i → Sh4 Xi (a + 2 + 2 * j)) ∧ (∀ c, xz Xi ≤ c → xF Xi c = xF X c) ∧ (mI Mi = mI M ∧ mJ Mi = mJ M) ∧ (∀ c, c ≠ a + 1 → mR Mi c = mR M c) ∧ (∀ j, j < i → mR Mi (a + 1) j = some (a + 2 + 2 * j))
theorem FLp.z {X Xi : Sh} {M Mi : Mm} {a i : Nat} (h : FLp X Xi M Mi a i) : xz Xi = a + 2 + 2 * i := h.1
theorem FLp.old {X Xi : Sh} {M Mi : Mm} {a i : Nat} (h : FLp X Xi M Mi a i) : ∀ c, c < a → xK Xi c = xK X c ∧ xN Xi c = xN X c ∧ xF Xi c = xF X c := h.2.1
theorem FLp.ka {X Xi : Sh} {M Mi : Mm} {a i : Nat} (h : FLp X Xi M Mi a i) : xK Xi a = xK X a ∧ xN Xi a = xN X a := h.2.2.1
theorem FLp.f4 {X Xi : Sh} {M Mi : Mm} {a i : Nat} (h : FLp X Xi M Mi a i) : xF Xi a 4 = some (a + 1) := h.2.2.2.1
theorem FLp.kr {X Xi : Sh} {M Mi : Mm} {a i : Nat} (h : FLp X Xi M Mi a i) : xK Xi (a + 1) = 14 := h.2.2.2.2.1
theorem FLp.nr {X Xi : Sh} {M Mi : Mm} {a i : Nat} (h : FLp X Xi M Mi a i) : xN Xi (a + 1) = 24 := h.2.2.2.2.2.1
theorem FLp.lay {X Xi : Sh} {M Mi : Mm} {a i : Nat} (h : FLp X Xi M Mi a i) : ∀ j, j < i → Sh4 Xi (a + 2 + 2 * j) := h.2.2.2.2.2.2.1
theorem FLp.far {X Xi : Sh} {M Mi : Mm} {a i : Nat} (h : FLp X Xi M Mi a i) : ∀ c, xz Xi ≤ c → xF Xi c = xF X c := h.2.2.2.2.2.2.2.1
theorem FLp.mi {X Xi : Sh} {M Mi : Mm} {a i : Nat} (h : FLp X Xi M Mi a i) : mI Mi = mI M ∧ mJ Mi = mJ M := h.2.2.2.2.2.2.2.2.1
theorem FLp.mr {X Xi : Sh} {M Mi : Mm} {a i : Nat} (h : FLp X Xi M Mi a i) : ∀ c, c ≠ a + 1 → mR Mi c = mR M c := h.2.2.2.2.2.2.2.2.2.1
theorem FLp.mrow {X Xi : Sh} {M Mi : Mm} {a i : Nat} (h : FLp X Xi M Mi a i) : ∀ j, j < i → mR Mi (a + 1) j = some (a + 2 + 2 * j) := h.2.2.2.2.2.2.2.2.2.2
theorem cl_furnace (G : Gl) (d : Nat) (hd : 1 ≤ d) {X : Sh} {M : Mm} {a : Nat} {Q : Sh → Mm → Option Value → Prop} (ha : xK X a = 1) (hM : ∀ c j, a ≤ c → mI M c j = 0) (hF : ∀ c j, a < c → xF X c j = none) (hq : ∀ Xi Mi, FLp X Xi M Mi a 24 → Wp G m_X1_init (d + 1) 53 404 (1 + 2 * 24) (24 + 15 * 24) 60 [(0, .ref a)] [] Xi Mi Q) :
    ∀ (n i : Nat) (Xi : Sh) (Mi : Mm), i + n = 24 → FLp X Xi M Mi a i → Wp G m_X1_init (d + 1) 53 404 (1 + 2 * i) (24 + 15 * i) 35 [(1, .int (nI i)), (0, .ref a)] [] Xi Mi Q
  | 0, i, Xi, Mi, h, hL => by
    have hi : i = 24 := h
    subst hi
    refine wp_iload_n 0 dX1_init_35 rfl rfl ?_
    refine wp_bipush (v := 24) dX1_init_36 rfl ?_
    refine wp_icmp_ge (tgt := 60) dX1_init_38 (by decide) (fun _ => ?_) (fun q => absurd (by decide) q)
    exact Wp.sub [1] rfl (hq Xi Mi hL)
  | n + 1, i, Xi, Mi, h, hL => by
    have hz := hL.z
    refine wp_iload_n 0 dX1_init_35 rfl rfl ?_
    refine wp_bipush (v := 24) dX1_init_36 rfl ?_
    refine wp_icmp_ge (tgt := 60) dX1_init_38 (by decide) (fun q => ?_) (fun _ => ?_)
    · have := (nI_leI (a := 24) (by omega) (by omega)).mp q
      omega
    refine wp_aload_n 1 dX1_init_41 rfl rfl ?_
    refine wp_getR (ci := 1) (k := 4) (t := a + 1) dX1_init_42 fl_RX1_26 rfl (hL.ka.1.trans ha) hL.f4 ?_
    refine wp_iload_n 0 dX1_init_45 rfl rfl ?_
    refine wp_new (ci := 4) dX1_init_46 nw_RX1_24 (by omega) (by show 24 + 15 * i + 10 ≤ 404; omega) (fun j => by rw [hL.mi.1]; exact hM _ j (by omega)) (fun j => by rw [hL.far _ (Nat.le_refl _)]; exact hF _ j (by omega)) ?_
    refine wp_dup dX1_init_49 rfl ?_
    refine wp_callI (b := xz Xi) (as := []) dX1_init_50 ck_RX1_30 rfl rfl (Nat.le_of_ble_eq_true rfl) (by omega) (by show 24 + 15 * i + 10 + 5 ≤ 404; omega) (cl_X4_init G d hd (xAdd Xi 4 0) Mi (xz Xi) (va_up_self _ _ _) rfl (fun c j hc => by rw [hL.mi.1]; exact hM c j (by omega))) (fun X' M' v hQ => hQ.2.2.z) (fun X' M' v hQ => ?_)
    obtain ⟨rfl, rfl, hl⟩ := hQ
    have zx : xz (xAdd Xi 4 0) = xz Xi + 1 := rfl
    have hlz : xz X' = xz Xi + 1 + 1 := hl.z
    have old2 : ∀ c, c < xz Xi → xK X' c = xK Xi c ∧ xN X' c = xN Xi c ∧ xF X' c = xF Xi c := fun c hc => ⟨((hl.old c (by omega)).1).trans (va_up_ne _ _ (by omega)), ((hl.old c (by omega)).2).trans (va_up_ne _ _ (by omega)), hl.oldF c (by omega)⟩
    have s4 : Sh4 X' (xz Xi) := sh4_of hl rfl (va_up_self _ _ _)
    refine wp_rast (n := 24) (j := i) dX1_init_53 ((old2 (a + 1) (by omega)).1.trans hL.kr) ((old2 (a + 1) (by omega)).2.1.trans hL.nr) (by decide) rfl (by omega) s4.1 ?_
    refine wp_iinc (v := nI i + 1) (lo2 := [(1, .int _), (0, .ref _)]) dX1_init_54 (q := 0) rfl rfl (by decide) rfl ?_
    refine wp_goto (tgt := 35) dX1_init_57 (by decide) ?_
    rw [nI_1, show 1 + 2 * i + 1 + 1 = 1 + 2 * (i + 1) by omega, show 24 + 15 * i + nFd 4 + 5 = 24 + 15 * (i + 1) by show 24 + 15 * i + 10 + 5 = _; omega]
    refine cl_furnace G d hd ha hM hF hq n (i + 1) X' _ (by omega) ⟨by omega, fun c hc => ?_, ?_, ?_, ?_, ?_, fun j hj => ?_, fun c hc => ?_, hL.mi, fun c hc => ?_, fun j hj => ?_⟩
    · obtain ⟨g1, g2, g3⟩ := old2 c (by omega)
      obtain ⟨k1, k2, k3⟩ := hL.old c hc
      exact ⟨g1.trans k1, g2.trans k2, g3.trans k3⟩
    · exact ⟨(old2 a (by omega)).1.trans hL.ka.1, (old2 a (by omega)).2.1.trans hL.ka.2⟩
    · rw [(old2 a (by omega)).2.2]
      exact hL.f4
    · exact (old2 _ (by omega)).1.trans hL.kr
    · exact (old2 _ (by omega)).2.1.trans hL.nr
    · by_cases e : j = i
      · subst e
        rw [← hz]
        exact s4
      · exact sh4_mono (hL.lay j (by omega)) (fun c c1 c2 => old2 c (by omega))
    · rw [hl.oldF c (by omega)]
      exact hL.far c (by omega)
    · rw [mR_sR, up2_off _ _ _ hc]
      exact hL.mr c hc
    · rw [mR_sR]
      by_cases e : j = i
      · subst e
        rw [up2_same, hz]
      · rw [up2_k _ _ _ e]
        exact hL.mrow j (by omega)
theorem cl_X1_init (G : Gl) (d : Nat) (hd : 2 ≤ d) (X : Sh) (M : Mm) (a : Nat) (ha : xK X a = 1) (hx : xz X = a + 1) (hM : ∀ c j, a ≤ c → mI M c j = 0) (hJ : ∀ c j, a ≤ c → mJ M c j = 0) (hR : ∀ c j, a ≤ c → mR M c j = none) (hF : ∀ c j, a < c → xF X c j = none) : Cl G m_X1_init d 53 404 [.ref a] X M (fun X2 M2 v => v = none ∧ (mI M2 = mI M ∧ mJ M2 = mJ M ∧ (∀ c, c ≠ a + 1 → mR M2 c = mR M c) ∧ ∀ l, l < 24 → mR M2 (a + 1) l = some (a + 2 + 2 * l)) ∧ Sh1 X2 a ∧ Mk X X2 a 53) := by
  obtain ⟨d, rfl⟩ : ∃ d1, d = d1 + 1 := ⟨d - 1, by omega⟩
  have hs0 : ∀ k, mI M a k = 0 := fun k => hM a k (Nat.le_refl _)
  refine Cl.of (by decide) (Nat.le_of_ble_eq_true rfl) ?_
  refine wp_aload_n 0 dX1_init_0 rfl rfl ?_
  refine wp_objInit dX1_init_1 oi_RX1_3 oi_2 oi_3 (Nat.le_of_ble_eq_true rfl) ?_
  refine wp_aload_n 0 dX1_init_4 rfl rfl ?_
  refine wp_iconst (v := 0) dX1_init_5 rfl ?_
  refine wp_put0 dX1_init_6 fp_RX1_9 rfl ha (hs0 _) ?_
  refine wp_aload_n 0 dX1_init_9 rfl rfl ?_
  refine wp_iconst (v := 0) dX1_init_10 rfl ?_
  refine wp_put0 dX1_init_11 fp_RX1_15 rfl ha (hs0 _) ?_
  refine wp_aload_n 0 dX1_init_14 rfl rfl ?_
  refine wp_iconst (v := 0) dX1_init_15 rfl ?_
  refine wp_put0 dX1_init_16 fp_RX1_18 rfl ha (hs0 _) ?_
  refine wp_aload_n 0 dX1_init_19 rfl rfl ?_
  refine wp_iconst (v := 0) dX1_init_20 rfl ?_
  refine wp_put0 dX1_init_21 fp_RX1_21 rfl ha (hs0 _) ?_
  refine wp_aload_n 0 dX1_init_24 rfl rfl ?_
  refine wp_bipush (v := 24) dX1_init_25 rfl ?_
  refine wp_newq_Layer (N := 24) dX1_init_27 cq_RX1_24 rfl (by decide) (by omega) (by omega) (fun j => hR _ j (by omega)) ?_
  have ka : xK (xAdd X 14 24) a = 1 := (va_up_ne _ _ (by omega)).trans ha
  refine wp_putR dX1_init_30 ft_RX1_26 rfl ka rfl rfl rfl ?_
  refine wp_iconst (v := 0) dX1_init_33 rfl ?_
  refine wp_istore_n (lo2 := [(1, .int _), (0, .ref _)]) dX1_init_34 rfl (by decide) rfl ?_
  refine cl_furnace G d (by omega) ha hM hF (fun Xi Mi hL => ?_) 24 0 _ M rfl ⟨?_, fun c hc => ⟨va_up_ne _ _ (by omega), va_up_ne _ _ (by omega), up2_off _ _ _ (by omega)⟩, ⟨va_up_ne _ _ (by omega), va_up_ne _ _ (by omega)⟩, ?_, ?_, ?_, fun j hj => absurd hj (by omega), fun c hc => ?_, ⟨rfl, rfl⟩, fun _ _ => rfl, fun j hj => absurd hj (by omega)⟩
  · have hz := hL.z
    have ka2 : xK Xi a = 1 := hL.ka.1.trans ha
    have hzi : ∀ c j, xz Xi ≤ c → mI Mi c j = 0 := fun c j hc => by rw [hL.mi.1]; exact hM c j (by omega)
    have hzj : ∀ c j, xz Xi ≤ c → mJ Mi c j = 0 := fun c j hc => by rw [hL.mi.2]; exact hJ c j (by omega)
    have L0 := Lay.nil Xi a
    refine wp_aload_n 0 dX1_init_60 rfl rfl ?_
    refine wp_iconst (v := 0) dX1_init_61 rfl ?_
    refine wp_put0 dX1_init_62 fp_RX1_31 rfl ka2 (by rw [hL.mi.1]; exact hs0 _) ?_
    refine wp_aload_n 0 dX1_init_65 rfl rfl ?_
    refine wp_iconst (v := 5) dX1_init_66 rfl ?_
    refine wp_rowi (k := 6) (N := 5) dX1_init_67 dX1_init_69 ft_RX1_34 rfl ka2 L0 (by omega) (by decide) rfl rfl (by decide) (by omega) (by omega) hzi (fun X1 L1 => ?_)
    refine wp_aload_n 0 dX1_init_72 rfl rfl ?_
    refine wp_iconst (v := 5) dX1_init_73 rfl ?_
    refine wp_rowi (k := 7) (N := 5) dX1_init_74 dX1_init_76 ft_RX1_38 rfl ka2 L1 (by omega) (by decide) rfl rfl (by decide) (by omega) (by omega) hzi (fun X2 L2 => ?_)
    refine wp_aload_n 0 dX1_init_79 rfl rfl ?_
    refine wp_iconst (v := 5) dX1_init_80 rfl ?_
    refine wp_rowl (k := 8) (N := 5) dX1_init_81 dX1_init_83 ft_RX1_41 rfl ka2 L2 (by omega) (by decide) rfl rfl (by decide) (by omega) (by omega) hzj (fun X3 L3 => ?_)
    refine wp_aload_n 0 dX1_init_86 rfl rfl ?_
    refine wp_iconst (v := 5) dX1_init_87 rfl ?_
    refine wp_rowi (k := 9) (N := 5) dX1_init_88 dX1_init_90 ft_RX1_45 rfl ka2 L3 (by omega) (by decide) rfl rfl (by decide) (by omega) (by omega) hzi (fun X4 L4 => ?_)
    have g := L4.got
    have l4 : xz X4 = xz Xi + 4 := L4.z
    rw [hz] at g
    refine wp_vret dX1_init_93 rfl rfl (Nat.le_of_ble_eq_true rfl) ⟨rfl, ⟨hL.mi.1, hL.mi.2, hL.mr, hL.mrow⟩, ⟨?_, ?_, ?_, ?_, (g 0 (by decide)).2.2, (g 0 (by decide)).1, (g 0 (by decide)).2.1, (g 1 (by decide)).2.2, (g 1 (by decide)).1, (g 1 (by decide)).2.1, (g 2 (by decide)).2.2, (g 2 (by decide)).1, (g 2 (by decide)).2.1, (g 3 (by decide)).2.2, (g 3 (by decide)).1, (g 3 (by decide)).2.1, fun i hi => ?_⟩, ⟨by omega, fun c h1 h2 => ?_, ?_, fun c hc => ?_⟩⟩
    · exact (L4.old a (by omega)).1.trans ka2
    · rw [L4.oldk 4 (by decide)]
      exact hL.f4
    · exact (L4.old _ (by omega)).1.trans hL.kr
    · exact (L4.old _ (by omega)).2.trans hL.nr
    · exact sh4_mono (hL.lay i hi) (fun c c1 c2 => ⟨(L4.old c (by omega)).1, (L4.old c (by omega)).2, L4.oldF c (by omega)⟩)
    · obtain ⟨k1, k2, k3⟩ := hL.old c (by omega)
      exact ⟨(L4.old c (by omega)).1.trans k1, (L4.old c (by omega)).2.trans k2, (L4.oldF c h2).trans k3⟩
    · exact ⟨(L4.old a (by omega)).1.trans hL.ka.1, (L4.old a (by omega)).2.trans hL.ka.2⟩
    · rw [L4.oldF c (by omega)]
      exact hL.far c (by omega)
  · show xz X + 1 = _
    omega
  · show up2 (xF X) a 4 (some (xz X)) a 4 = _
    rw [up2_same, hx]
  · show va_up (xK X) (xz X) 14 (a + 1) = 14
    rw [hx]
    exact va_up_self _ _ _
  · show va_up (xN X) (xz X) 24 (a + 1) = 24
    rw [hx]
    exact va_up_self _ _ _
  · show up2 (xF X) a 4 _ c = _
    have hc : xz X + 1 ≤ c := hc
    rw [up2_off _ _ _ (by omega)]
