/-! the rows of sheets and of slots are filled -/
theorem nw_RX10_37 : NWc RX10 37 5 := ⟨by decide, RX5, TX5, tyX5, rfl, uw5, tyX5_ok, by decide, (gw_2 (List.mem_of_getElem? (l := tables_1_2) (i := 81) (by decide +kernel)) rfl), (gw_2 (List.mem_of_getElem? (l := tables_1_2) (i := 83) (by decide +kernel)) rfl), (gw_1 (List.mem_of_getElem? (l := tables_1_1) (i := 9) (by decide +kernel)) rfl)⟩
theorem nw_RX10_44 : NWc RX10 44 6 := ⟨by decide, RX6, TX6, tyX6, rfl, uw6, tyX6_ok, by decide, (gw_2 (List.mem_of_getElem? (l := tables_1_2) (i := 106) (by decide +kernel)) rfl), (gw_2 (List.mem_of_getElem? (l := tables_1_2) (i := 108) (by decide +kernel)) rfl), (gw_1 (List.mem_of_getElem? (l := tables_1_1) (i := 10) (by decide +kernel)) rfl)⟩
theorem ft_RX10_10 : FLt RX10 10 9 0 true (tyX10 0) := ⟨by decide, by decide, RX10, TX10, tyX10, rfl, uw9, fw_RX10_10, rfl, rfl, tyX10_ok 0 (by decide), tyX10_ok, nmX10⟩
theorem ft_RX10_16 : FLt RX10 16 9 1 true (tyX10 1) := ⟨by decide, by decide, RX10, TX10, tyX10, rfl, uw9, fw_RX10_16, rfl, rfl, tyX10_ok 1 (by decide), tyX10_ok, nmX10⟩
theorem ft_RX10_26 : FLt RX10 26 9 3 true (tyX10 3) := ⟨by decide, by decide, RX10, TX10, tyX10, rfl, uw9, fw_RX10_26, rfl, rfl, tyX10_ok 3 (by decide), tyX10_ok, nmX10⟩
theorem ft_RX10_33 : FLt RX10 33 9 4 true (tyX10 4) := ⟨by decide, by decide, RX10, TX10, tyX10, rfl, uw9, fw_RX10_33, rfl, rfl, tyX10_ok 4 (by decide), tyX10_ok, nmX10⟩
theorem ft_RX10_39 : FLt RX10 39 9 5 true (tyX10 5) := ⟨by decide, by decide, RX10, TX10, tyX10, rfl, uw9, fw_RX10_39, rfl, rfl, tyX10_ok 5 (by decide), tyX10_ok, nmX10⟩
theorem ft_RX10_46 : FLt RX10 46 9 6 true (tyX10 6) := ⟨by decide, by decide, RX10, TX10, tyX10, rfl, uw9, fw_RX10_46, rfl, rfl, tyX10_ok 6 (by decide), tyX10_ok, nmX10⟩
theorem ft_RX10_51 : FLt RX10 51 9 7 true (tyX10 7) := ⟨by decide, by decide, RX10, TX10, tyX10, rfl, uw9, fw_RX10_51, rfl, rfl, tyX10_ok 7 (by decide), tyX10_ok, nmX10⟩
def LPSheets (Xb Xi : Sh) (Mb Mi : Mm) (z0 i : Nat) : Prop := (xz Xi = z0 + 1 + 3 * i) ∧ (∀ c, c < z0 → xK Xi c = xK Xb c ∧ xN Xi c = xN Xb c ∧ xF Xi c = xF Xb c) ∧ (xK Xi z0 = 15) ∧ (xN Xi z0 = 4) ∧ (∀ j, j < i → xF Xi z0 j = some (z0 + 1 + 3 * j)) ∧ (∀ j, j < i → Sh5 Xi (z0 + 1 + 3 * j)) ∧ (∀ c, xz Xi ≤ c → xF Xi c = xF Xb c) ∧ (∀ c j, ¬ (j = 0 ∧ ∃ q, q < i ∧ c = z0 + 1 + 3 * q) → mI Mi c j = mI Mb c j) ∧ (∀ q, q < i → mI Mi (z0 + 1 + 3 * q) 0 = -1) ∧ (mJ Mi = mJ Mb) ∧ (mR Mi = mR Mb)
theorem LPSheets.z {Xb Xi : Sh} {Mb Mi : Mm} {z0 i : Nat} (h : LPSheets Xb Xi Mb Mi z0 i) : xz Xi = z0 + 1 + 3 * i := h.1
theorem LPSheets.old {Xb Xi : Sh} {Mb Mi : Mm} {z0 i : Nat} (h : LPSheets Xb Xi Mb Mi z0 i) : ∀ c, c < z0 → xK Xi c = xK Xb c ∧ xN Xi c = xN Xb c ∧ xF Xi c = xF Xb c := h.2.1
theorem LPSheets.kr {Xb Xi : Sh} {Mb Mi : Mm} {z0 i : Nat} (h : LPSheets Xb Xi Mb Mi z0 i) : xK Xi z0 = 15 := h.2.2.1
theorem LPSheets.nr {Xb Xi : Sh} {Mb Mi : Mm} {z0 i : Nat} (h : LPSheets Xb Xi Mb Mi z0 i) : xN Xi z0 = 4 := h.2.2.2.1
theorem LPSheets.row {Xb Xi : Sh} {Mb Mi : Mm} {z0 i : Nat} (h : LPSheets Xb Xi Mb Mi z0 i) : ∀ j, j < i → xF Xi z0 j = some (z0 + 1 + 3 * j) := h.2.2.2.2.1
theorem LPSheets.lay {Xb Xi : Sh} {Mb Mi : Mm} {z0 i : Nat} (h : LPSheets Xb Xi Mb Mi z0 i) : ∀ j, j < i → Sh5 Xi (z0 + 1 + 3 * j) := h.2.2.2.2.2.1
theorem LPSheets.far {Xb Xi : Sh} {Mb Mi : Mm} {z0 i : Nat} (h : LPSheets Xb Xi Mb Mi z0 i) : ∀ c, xz Xi ≤ c → xF Xi c = xF Xb c := h.2.2.2.2.2.2.1
theorem LPSheets.mem {Xb Xi : Sh} {Mb Mi : Mm} {z0 i : Nat} (h : LPSheets Xb Xi Mb Mi z0 i) : ∀ c j, ¬ (j = 0 ∧ ∃ q, q < i ∧ c = z0 + 1 + 3 * q) → mI Mi c j = mI Mb c j := h.2.2.2.2.2.2.2.1
theorem LPSheets.put {Xb Xi : Sh} {Mb Mi : Mm} {z0 i : Nat} (h : LPSheets Xb Xi Mb Mi z0 i) : ∀ q, q < i → mI Mi (z0 + 1 + 3 * q) 0 = -1 := h.2.2.2.2.2.2.2.2.1
theorem LPSheets.mj {Xb Xi : Sh} {Mb Mi : Mm} {z0 i : Nat} (h : LPSheets Xb Xi Mb Mi z0 i) : mJ Mi = mJ Mb := h.2.2.2.2.2.2.2.2.2.1
theorem LPSheets.mr {Xb Xi : Sh} {Mb Mi : Mm} {z0 i : Nat} (h : LPSheets Xb Xi Mb Mi z0 i) : mR Mi = mR Mb := h.2.2.2.2.2.2.2.2.2.2
theorem cl_Sheets (G : Gl) (d ce sl : Nat) (hd : 2 ≤ d) {Xb : Sh} {Mb : Mm} {a z0 : Nat} {Q : Sh → Mm → Option Value → Prop} (haz : a < z0) (hc : ce + 3 * 4 ≤ 265) (hs : sl + 52 * 4 ≤ 100000) (ha : xK Xb a = 9) (hk : xF Xb a 5 = some z0) (hM : ∀ c j, z0 < c → mI Mb c j = 0) (hF : ∀ c j, z0 < c → xF Xb c j = none) (hq : ∀ Xi Mi, LPSheets Xb Xi Mb Mi z0 4 → Wp G m_X10_init (d + 1) 265 100000 (ce + 3 * 4) (sl + 52 * 4) 87 [(0, .ref a)] [] Xi Mi Q) :
    ∀ (n i : Nat) (Xi : Sh) (Mi : Mm), i + n = 4 → LPSheets Xb Xi Mb Mi z0 i → Wp G m_X10_init (d + 1) 265 100000 (ce + 3 * i) (sl + 52 * i) 63 [(1, .int (nI i)), (0, .ref a)] [] Xi Mi Q
  | 0, i, Xi, Mi, h, hL => by
    have hi : i = 4 := h
    subst hi
    refine wp_iload_n 0 dX10_init_63 rfl rfl ?_
    refine wp_iconst (v := 4) dX10_init_64 rfl ?_
    refine wp_icmp_ge (tgt := 87) dX10_init_65 (by decide) (fun _ => ?_) (fun q => absurd (by decide) q)
    exact Wp.sub [1] rfl (hq Xi Mi hL)
  | n + 1, i, Xi, Mi, h, hL => by
    have hz := hL.z
    have zM : ∀ c j, xz Xi ≤ c → mI Mi c j = 0 := fun c j hc => by
      rw [hL.mem c j (fun u => by
        obtain ⟨_, q, q1, q2⟩ := u
        omega)]
      exact hM c j (by omega)
    have zF : ∀ c j, xz Xi ≤ c → xF Xi c j = none := fun c j hc => by
      rw [hL.far c hc]
      exact hF c j (by omega)
    refine wp_iload_n 0 dX10_init_63 rfl rfl ?_
    refine wp_iconst (v := 4) dX10_init_64 rfl ?_
    refine wp_icmp_ge (tgt := 87) dX10_init_65 (by decide) (fun q => ?_) (fun _ => ?_)
    · have := (nI_leI (a := 4) (by omega) (by omega)).mp q
      omega
    refine wp_aload_n 1 dX10_init_68 rfl rfl ?_
    refine wp_getR (ci := 9) (k := 5) (t := z0) dX10_init_69 fl_RX10_39 rfl ((hL.old a haz).1.trans ha) (by rw [(hL.old a haz).2.2]; exact hk) ?_
    refine wp_iload_n 0 dX10_init_72 rfl rfl ?_
    refine wp_new (ci := 5) dX10_init_73 nw_RX10_37 (by omega) (by show sl + 52 * i + 4 ≤ 100000; omega) (fun j => zM _ j (Nat.le_refl _)) (fun j => zF _ j (Nat.le_refl _)) ?_
    refine wp_dup dX10_init_76 rfl ?_
    refine wp_callI (b := xz Xi) (as := []) dX10_init_77 ck_RX10_43 rfl rfl (Nat.le_of_ble_eq_true rfl) (by omega) (by show sl + 52 * i + 4 + 48 ≤ 100000; omega) (cl_X5_init G d (by omega) (xAdd Xi 5 0) Mi (xz Xi) (va_up_self _ _ _) rfl (fun c j hc => zM c j hc)) (fun X' M' v hQ => hQ.2.2.z) (fun X' M' v hQ => ?_)
    obtain ⟨rfl, rfl, hl⟩ := hQ
    have hlz : xz X' = xz Xi + 1 + 2 := hl.z
    have hk2 := hl.mk (a := xz Xi) (by show xz Xi < xz Xi + 1; omega)
    have s5 : Sh5 X' (xz Xi) := sh5_of hl rfl (va_up_self _ _ _)
    have old2 : ∀ c, c < xz Xi → xK X' c = xK Xi c ∧ xN X' c = xN Xi c ∧ xF X' c = xF Xi c := fun c hc => by
      obtain ⟨g1, g2, g3⟩ := hk2.old c (by show c < xz Xi + 1; omega) (by omega)
      exact ⟨g1.trans (va_up_ne _ _ (by omega)), g2.trans (va_up_ne _ _ (by omega)), g3⟩
    refine wp_fast15 (n := 4) (j := i) dX10_init_80 ((old2 z0 (by omega)).1.trans hL.kr) ((old2 z0 (by omega)).2.1.trans hL.nr) (by decide) rfl (by omega) s5.1 ?_
    refine wp_iinc (v := nI i + 1) (lo2 := [(1, .int _), (0, .ref _)]) dX10_init_81 (q := 0) rfl rfl (by decide) rfl ?_
    refine wp_goto (tgt := 63) dX10_init_84 (by decide) ?_
    rw [nI_1, show ce + 3 * i + 1 + 2 = ce + 3 * (i + 1) by omega, show sl + 52 * i + nFd 5 + 48 = sl + 52 * (i + 1) by show sl + 52 * i + 4 + 48 = _; omega]
    refine cl_Sheets G d ce sl hd haz hc hs ha hk hM hF hq n (i + 1) (xSet X' z0 i (xz Xi)) _ (by omega) ⟨?_, fun c hc => ?_, ?_, ?_, fun j hj => ?_, fun j hj => ?_, fun c hc => ?_, fun c j hc => ?_, fun q hq => ?_, hL.mj, hL.mr⟩
    · show xz X' = _
      omega
    · obtain ⟨g1, g2, g3⟩ := old2 c (by omega)
      obtain ⟨k1, k2, k3⟩ := hL.old c hc
      exact ⟨g1.trans k1, g2.trans k2, (up2_off _ _ _ (by omega)).trans (g3.trans k3)⟩
    · exact (old2 z0 (by omega)).1.trans hL.kr
    · exact (old2 z0 (by omega)).2.1.trans hL.nr
    · show up2 (xF X') z0 i (some (xz Xi)) z0 j = _
      by_cases e : j = i
      · subst e
        rw [up2_same, hz]
      · rw [up2_k _ _ _ e, (old2 z0 (by omega)).2.2]
        exact hL.row j (by omega)
    · by_cases e : j = i
      · subst e
        rw [← hz]
        exact sh5_mono s5 (agr_set (Or.inl (by omega)))
      · exact sh5_mono (sh5_mono (hL.lay j (by omega)) (fun c c1 c2 => old2 c (by omega))) (agr_set (Or.inl (by omega)))
    · have hc : xz X' ≤ c := hc
      exact (up2_off _ _ _ (by omega)).trans ((hk2.far c (by omega)).trans (hL.far c (by omega)))
    · rw [mI_sI]
      have n1 : ¬ (c = xz Xi ∧ j = 0) := fun u => hc ⟨u.2, i, by omega, by omega⟩
      unfold up2
      rw [if_neg n1]
      refine hL.mem c j (fun u => ?_)
      obtain ⟨u1, q, u2, u3⟩ := u
      exact hc ⟨u1, q, by omega, u3⟩
    · rw [mI_sI]
      by_cases e : q = i
      · subst e
        rw [show z0 + 1 + 3 * q = xz Xi by omega, up2_same]
      · rw [up2_off _ _ _ (by omega)]
        exact hL.put q (by omega)
def LPSlots (Xb Xi : Sh) (Mb Mi : Mm) (z0 i : Nat) : Prop := (xz Xi = z0 + 1 + 4 * i) ∧ (∀ c, c < z0 → xK Xi c = xK Xb c ∧ xN Xi c = xN Xb c ∧ xF Xi c = xF Xb c) ∧ (xK Xi z0 = 16) ∧ (xN Xi z0 = 5) ∧ (∀ j, j < i → xF Xi z0 j = some (z0 + 1 + 4 * j)) ∧ (∀ j, j < i → Sh6 Xi (z0 + 1 + 4 * j)) ∧ (∀ c, xz Xi ≤ c → xF Xi c = xF Xb c) ∧ (∀ c j, ¬ (j = 0 ∧ ∃ q, q < i ∧ c = z0 + 2 + 4 * q) → mI Mi c j = mI Mb c j) ∧ (∀ q, q < i → mI Mi (z0 + 2 + 4 * q) 0 = -1) ∧ (mJ Mi = mJ Mb) ∧ (mR Mi = mR Mb)
theorem LPSlots.z {Xb Xi : Sh} {Mb Mi : Mm} {z0 i : Nat} (h : LPSlots Xb Xi Mb Mi z0 i) : xz Xi = z0 + 1 + 4 * i := h.1
theorem LPSlots.old {Xb Xi : Sh} {Mb Mi : Mm} {z0 i : Nat} (h : LPSlots Xb Xi Mb Mi z0 i) : ∀ c, c < z0 → xK Xi c = xK Xb c ∧ xN Xi c = xN Xb c ∧ xF Xi c = xF Xb c := h.2.1
theorem LPSlots.kr {Xb Xi : Sh} {Mb Mi : Mm} {z0 i : Nat} (h : LPSlots Xb Xi Mb Mi z0 i) : xK Xi z0 = 16 := h.2.2.1
theorem LPSlots.nr {Xb Xi : Sh} {Mb Mi : Mm} {z0 i : Nat} (h : LPSlots Xb Xi Mb Mi z0 i) : xN Xi z0 = 5 := h.2.2.2.1
theorem LPSlots.row {Xb Xi : Sh} {Mb Mi : Mm} {z0 i : Nat} (h : LPSlots Xb Xi Mb Mi z0 i) : ∀ j, j < i → xF Xi z0 j = some (z0 + 1 + 4 * j) := h.2.2.2.2.1
theorem LPSlots.lay {Xb Xi : Sh} {Mb Mi : Mm} {z0 i : Nat} (h : LPSlots Xb Xi Mb Mi z0 i) : ∀ j, j < i → Sh6 Xi (z0 + 1 + 4 * j) := h.2.2.2.2.2.1
theorem LPSlots.far {Xb Xi : Sh} {Mb Mi : Mm} {z0 i : Nat} (h : LPSlots Xb Xi Mb Mi z0 i) : ∀ c, xz Xi ≤ c → xF Xi c = xF Xb c := h.2.2.2.2.2.2.1
theorem LPSlots.mem {Xb Xi : Sh} {Mb Mi : Mm} {z0 i : Nat} (h : LPSlots Xb Xi Mb Mi z0 i) : ∀ c j, ¬ (j = 0 ∧ ∃ q, q < i ∧ c = z0 + 2 + 4 * q) → mI Mi c j = mI Mb c j := h.2.2.2.2.2.2.2.1
theorem LPSlots.put {Xb Xi : Sh} {Mb Mi : Mm} {z0 i : Nat} (h : LPSlots Xb Xi Mb Mi z0 i) : ∀ q, q < i → mI Mi (z0 + 2 + 4 * q) 0 = -1 := h.2.2.2.2.2.2.2.2.1
theorem LPSlots.mj {Xb Xi : Sh} {Mb Mi : Mm} {z0 i : Nat} (h : LPSlots Xb Xi Mb Mi z0 i) : mJ Mi = mJ Mb := h.2.2.2.2.2.2.2.2.2.1
theorem LPSlots.mr {Xb Xi : Sh} {Mb Mi : Mm} {z0 i : Nat} (h : LPSlots Xb Xi Mb Mi z0 i) : mR Mi = mR Mb := h.2.2.2.2.2.2.2.2.2.2
theorem cl_Slots (G : Gl) (d ce sl : Nat) (hd : 2 ≤ d) {Xb : Sh} {Mb : Mm} {a z0 : Nat} {Q : Sh → Mm → Option Value → Prop} (haz : a < z0) (hc : ce + 4 * 5 ≤ 265) (hs : sl + 57 * 5 ≤ 100000) (ha : xK Xb a = 9) (hk : xF Xb a 6 = some z0) (hM : ∀ c j, z0 < c → mI Mb c j = 0) (hF : ∀ c j, z0 < c → xF Xb c j = none) (hq : ∀ Xi Mi, LPSlots Xb Xi Mb Mi z0 5 → Wp G m_X10_init (d + 1) 265 100000 (ce + 4 * 5) (sl + 57 * 5) 121 [(0, .ref a)] [] Xi Mi Q) :
    ∀ (n i : Nat) (Xi : Sh) (Mi : Mm), i + n = 5 → LPSlots Xb Xi Mb Mi z0 i → Wp G m_X10_init (d + 1) 265 100000 (ce + 4 * i) (sl + 57 * i) 97 [(1, .int (nI i)), (0, .ref a)] [] Xi Mi Q
  | 0, i, Xi, Mi, h, hL => by
    have hi : i = 5 := h
    subst hi
    refine wp_iload_n 0 dX10_init_97 rfl rfl ?_
    refine wp_iconst (v := 5) dX10_init_98 rfl ?_
    refine wp_icmp_ge (tgt := 121) dX10_init_99 (by decide) (fun _ => ?_) (fun q => absurd (by decide) q)
    exact Wp.sub [1] rfl (hq Xi Mi hL)
  | n + 1, i, Xi, Mi, h, hL => by
    have hz := hL.z
    have zM : ∀ c j, xz Xi ≤ c → mI Mi c j = 0 := fun c j hc => by
      rw [hL.mem c j (fun u => by
        obtain ⟨_, q, q1, q2⟩ := u
        omega)]
      exact hM c j (by omega)
    have zF : ∀ c j, xz Xi ≤ c → xF Xi c j = none := fun c j hc => by
      rw [hL.far c hc]
      exact hF c j (by omega)
    refine wp_iload_n 0 dX10_init_97 rfl rfl ?_
    refine wp_iconst (v := 5) dX10_init_98 rfl ?_
    refine wp_icmp_ge (tgt := 121) dX10_init_99 (by decide) (fun q => ?_) (fun _ => ?_)
    · have := (nI_leI (a := 5) (by omega) (by omega)).mp q
      omega
    refine wp_aload_n 1 dX10_init_102 rfl rfl ?_
    refine wp_getR (ci := 9) (k := 6) (t := z0) dX10_init_103 fl_RX10_46 rfl ((hL.old a haz).1.trans ha) (by rw [(hL.old a haz).2.2]; exact hk) ?_
    refine wp_iload_n 0 dX10_init_106 rfl rfl ?_
    refine wp_new (ci := 6) dX10_init_107 nw_RX10_44 (by omega) (by show sl + 57 * i + 5 ≤ 100000; omega) (fun j => zM _ j (Nat.le_refl _)) (fun j => zF _ j (Nat.le_refl _)) ?_
    refine wp_dup dX10_init_110 rfl ?_
    refine wp_callI (b := xz Xi) (as := []) dX10_init_111 ck_RX10_50 rfl rfl (Nat.le_of_ble_eq_true rfl) (by omega) (by show sl + 57 * i + 5 + 52 ≤ 100000; omega) (cl_X6_init G d hd (xAdd Xi 6 0) Mi (xz Xi) (va_up_self _ _ _) rfl (fun c j hc => zM c j hc) (fun c j hc => zF c j (by omega))) (fun X' M' v hQ => hQ.2.2.2.z) (fun X' M' v hQ => ?_)
    obtain ⟨rfl, rfl, s5, hk2⟩ := hQ
    have hlz : xz X' = xz Xi + 1 + 3 := hk2.z
    have old2 : ∀ c, c < xz Xi → xK X' c = xK Xi c ∧ xN X' c = xN Xi c ∧ xF X' c = xF Xi c := fun c hc => by
      obtain ⟨g1, g2, g3⟩ := hk2.old c (by show c < xz Xi + 1; omega) (by omega)
      exact ⟨g1.trans (va_up_ne _ _ (by omega)), g2.trans (va_up_ne _ _ (by omega)), g3⟩
    refine wp_fast16 (n := 5) (j := i) dX10_init_114 ((old2 z0 (by omega)).1.trans hL.kr) ((old2 z0 (by omega)).2.1.trans hL.nr) (by decide) rfl (by omega) s5.1 ?_
    refine wp_iinc (v := nI i + 1) (lo2 := [(1, .int _), (0, .ref _)]) dX10_init_115 (q := 0) rfl rfl (by decide) rfl ?_
    refine wp_goto (tgt := 97) dX10_init_118 (by decide) ?_
    rw [nI_1, show ce + 4 * i + 1 + 3 = ce + 4 * (i + 1) by omega, show sl + 57 * i + nFd 6 + 52 = sl + 57 * (i + 1) by show sl + 57 * i + 5 + 52 = _; omega]
    refine cl_Slots G d ce sl hd haz hc hs ha hk hM hF hq n (i + 1) (xSet X' z0 i (xz Xi)) _ (by omega) ⟨?_, fun c hc => ?_, ?_, ?_, fun j hj => ?_, fun j hj => ?_, fun c hc => ?_, fun c j hc => ?_, fun q hq => ?_, hL.mj, hL.mr⟩
    · show xz X' = _
      omega
    · obtain ⟨g1, g2, g3⟩ := old2 c (by omega)
      obtain ⟨k1, k2, k3⟩ := hL.old c hc
      exact ⟨g1.trans k1, g2.trans k2, (up2_off _ _ _ (by omega)).trans (g3.trans k3)⟩
    · exact (old2 z0 (by omega)).1.trans hL.kr
    · exact (old2 z0 (by omega)).2.1.trans hL.nr
    · show up2 (xF X') z0 i (some (xz Xi)) z0 j = _
      by_cases e : j = i
      · subst e
        rw [up2_same, hz]
      · rw [up2_k _ _ _ e, (old2 z0 (by omega)).2.2]
        exact hL.row j (by omega)
    · by_cases e : j = i
      · subst e
        rw [← hz]
        exact sh6_mono s5 (agr_set (Or.inl (by omega)))
      · exact sh6_mono (sh6_mono (hL.lay j (by omega)) (fun c c1 c2 => old2 c (by omega))) (agr_set (Or.inl (by omega)))
    · have hc : xz X' ≤ c := hc
      exact (up2_off _ _ _ (by omega)).trans ((hk2.far c (by omega)).trans (hL.far c (by omega)))
    · rw [mI_sI]
      have n1 : ¬ (c = xz Xi + 1 ∧ j = 0) := fun u => hc ⟨u.2, i, by omega, by omega⟩
      unfold up2
      rw [if_neg n1]
      refine hL.mem c j (fun u => ?_)
      obtain ⟨u1, q, u2, u3⟩ := u
      exact hc ⟨u1, q, by omega, u3⟩
    · rw [mI_sI]
      by_cases e : q = i
      · subst e
        rw [show z0 + 2 + 4 * q = xz Xi + 1 by omega, up2_same]
      · rw [up2_off _ _ _ (by omega)]
        exact hL.put q (by omega)
