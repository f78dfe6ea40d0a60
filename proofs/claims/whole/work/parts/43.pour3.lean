/-! the call pour -/
def pourR (σ : Nat → Int32) (nd N : Nat) (time : Int32) : Int32 × Nat × (Nat → Int32) := pf (fun i => σ (320 + 2 * i)) nd (σ 8) N (nI N) time 0 0 (fun i => σ (321 + 2 * i))
/-- what pouring leaves of the class's house -/
def PourQ (M : Mm) (h nb nl nx nt nd N : Nat) (σ : Nat → Int32) (la : Nat → Nat) (time : Int32) (M12 : Mm) (r : Int32) : Prop :=
  ∃ M3, HSx M3 h (s_cast σ (nI N)) nb nl nx nt nd la ∧ (∀ c, c ≠ h + 8 → mI M3 c = mI M c) ∧ mR M3 = mR M ∧ (∀ c, c ≠ h + 80 → c ≠ h + 81 → c ≠ h + 82 → c ≠ h + 84 → mI M12 c = mI M3 c) ∧ mR M12 = mR M3 ∧ mI M12 (h + 82) 2 = nI nd ∧ (∀ i, i < nd → mI M12 (h + 84) i = (pourR σ nd N time).2.2 i) ∧ r = (pourR σ nd N time).1 + s_late (s_fill (s_cast σ (nI N)) nd (pourR σ nd N time).2.2) nx (nI (pourR σ nd N time).2.1)
theorem cp_X2_pourOut (G : Gl) (d : Nat) (hd : 4 ≤ d) (X : Sh) (M : Mm) (h nb nl nx nt nd N : Nat) (σ : Nat → Int32) (la : Nat → Nat) (time : Int32) (hS : Sh2 X h) (hh : HSx M h σ nb nl nx nt nd la) (hN : N ≤ 9999) (h1 : 1 ≤ nd) (hi : 1 ≤ σ 9) : Cn G m_X2_pourOut d [.ref h, .int (nI N), .int time] X M (PourQ M h nb nl nx nt nd N σ la time) := by
  obtain ⟨d, rfl⟩ : ∃ d1, d = d1 + 1 := ⟨d - 1, by omega⟩
  obtain ⟨hW, hB, hF, hT, hD, hR⟩ := id hh
  obtain ⟨w0, w1, w2, w3, w4, w5, w6, w7, w8, w9, wb, wf, wl, wt, wd, ws⟩ := id hW
  have d1 : mI M (h + 8) 1 = σ 9 := hF.2.1.2.1
  refine Cn.of (by decide) (Nat.le_of_ble_eq_true rfl) (bX2_pourOut_0 hS ⟨_, cp_X1_takeOut G d X M (h + 8) (nI N) (sh2_S_furnace hS) (by rw [d1]; exact hi), ?_⟩)
  intro M3 e3
  have m3 : ∀ c, c ≠ h + 8 → mI M3 c = mI M c := fun c hc => by rw [e3, mI_sI, up2_off _ _ _ hc, mI_sI, up2_off _ _ _ hc, mI_sI, up2_off _ _ _ hc]
  have f3 : mI M3 (h + 8) = upd (upd (upd (mI M (h + 8)) 2 (castV (mI M (h + 8) 2) (nI N) (mI M (h + 8) 1))) 3 (castV (mI M (h + 8) 3) (nI N) (mI M (h + 8) 1))) 1 (mI M (h + 8) 1 - nI N) := by rw [e3, mI_sI, up2_row, mI_sI, up2_row, mI_sI, up2_row]
  have R3 : mR M3 = mR M := by
    rw [e3]
    rfl
  have F3 : FR M3 (h + 8) (s_cast σ (nI N)) nl la := hF.cast w3 wf f3 (fun c h4 h5 => m3 c (by omega)) (by rw [R3])
  have H3 : HSx M3 h (s_cast σ (nI N)) nb nl nx nt nd la := hh.furn (fun k hk => s_cast_o (by omega)) (by rw [s_cast_o (by omega), w2]) w3 (wf.cast w3) (fun l hl => by rw [s_cast_o (by omega)]; exact wl l hl) (by obtain ⟨_, _, _, s2, _⟩ := ws; exact s2.2.cong (s_cast_o (by omega))) F3 (fun c h4 h5 h6 h7 h8 => m3 c (by omega))
  have hC : Caps (fun i => σ (320 + 2 * i)) nd := fun i hi => wd i hi
  have a8 : mI M3 (h + 85) 2 = σ 8 := by rw [m3 _ (by omega), hR 2 (by omega)]
  rw [a8]
  refine ⟨_, cp_X3_takeIn G d (by omega) X M3 (h + 82) nd N time (σ 8) (fun i => σ (320 + 2 * i)) (sh2_S_ladles hS) (by rw [m3 _ (by omega)]; exact hD.1) w9 h1 hN hC (fun i hi => by rw [m3 _ (by omega)]; exact (hD.2 i hi).1), ?_⟩
  rintro M7 r8 ⟨⟨q1, q2, q3, q4, q5⟩, e8⟩
  have pc := pf_cong (cap := fun i => σ (320 + 2 * i)) (cap2 := fun i => σ (320 + 2 * i)) (away := σ 8) h1 (fun _ _ => rfl) N (nI N) time 0 0 (mI M3 (h + 82 + 2)) (fun i => σ (321 + 2 * i)) (fun i hi => by rw [m3 _ (by omega)]; exact (hD.2 i hi).2)
  obtain ⟨c1, c2, c3⟩ := pc
  have c1 : (pf (fun i => σ (320 + 2 * i)) nd (σ 8) N (nI N) time 0 0 (mI M3 (h + 82 + 2))).1 = (pourR σ nd N time).1 := c1
  have c2 : (pf (fun i => σ (320 + 2 * i)) nd (σ 8) N (nI N) time 0 0 (mI M3 (h + 82 + 2))).2.1 = (pourR σ nd N time).2.1 := c2
  have c3 : ∀ i, i < nd → (pf (fun i => σ (320 + 2 * i)) nd (σ 8) N (nI N) time 0 0 (mI M3 (h + 82 + 2))).2.2 i = (pourR σ nd N time).2.2 i := c3
  rw [c1] at e8
  rw [c2] at q2
  generalize hRR : pourR σ nd N time = R at c1 c2 c3 e8 q2
  have T7 : TRep M7 (h + 62) (s_fill (s_cast σ (nI N)) nd R.2.2) nx := (hT.cong (fun k hk => by rw [s_fill_o (by omega), s_cast_o (by omega)])).mem w5 (fun c h4 h5 => by rw [q4 c (by omega) (by omega), m3 c (by omega)])
  have F7 : FR M7 (h + 8) (s_fill (s_cast σ (nI N)) nd R.2.2) nl la := (F3.cong (wf.cast w3) w3 (fun k hk => s_fill_o (by unfold Fk at hk; omega))).mem w3 (fun c h4 h5 => q4 c (by omega) (by omega)) (by rw [q5])
  rw [q2]
  refine ⟨_, cp_X2_lateFor G d (by omega) X M7 h nl nx _ la (nI R.2.1) hS w5 T7 F7, ?_⟩
  rintro M12 r13 ⟨e13, o12⟩
  subst hRR
  exact ⟨M3, H3, m3, R3, fun c h2 h3 h4 h5 => by rw [o12.1 c h2 h3, q4 c h4 h5], o12.2.trans q5, by rw [o12.1 _ (by omega) (by omega), q3 _ (by omega), m3 _ (by omega)]; exact hD.1, fun i hi => by rw [o12.1 _ (by omega) (by omega)]; exact (congrFun q1 i).trans (c3 i hi), by rw [e8, e13]⟩
theorem case_pour (G : Gl) (d : Nat) (hd : 16 ≤ d) (X : Sh) (b m : Nat) (hS : Sh9 X b) (hM : Sh10 X m) (hbm : b + 266 ≤ m) (x1 x2 : Int32) : Case G d X b m m_X10_pour m_X11_pour [.int x1, .int x2] := by
  obtain ⟨d, rfl⟩ : ∃ d1, d = d1 + 1 := ⟨d - 1, by omega⟩
  intro M hs
  obtain ⟨⟨nb, nl, nx, nt, nd, la, hh⟩, hr⟩ := id hs
  obtain ⟨hW, hB, hF, hT, hD, hR⟩ := id hh
  obtain ⟨w0, w1, w2, w3, w4, w5, w6, w7, w8, w9, wb, wf, wl, wt, wd, ws⟩ := id hW
  have d1' : mI M (b + 1 + 8) 1 = mI M (m + 1) 9 := hF.2.1.2.1
  by_cases h : 1 ≤ x1 ∧ x1 ≤ 9999
  · by_cases h2 : 0 ≤ x2 ∧ x2 ≤ 9999
    · by_cases hn : nd = 0
      · have z1 : mI M (b + 1 + 82) 2 = 0 := by
          rw [hD.1, hn]
          rfl
        have z2 : mI M (m + 1) 4 = 0 := by
          rw [w8, hn]
          rfl
        exact Cn.of (by decide) (Nat.le_of_ble_eq_true rfl) (bX10_pour_0 hS ⟨fun q => absurd h q, fun _ => ⟨fun _ => ⟨fun _ => Cn.of (by decide) (Nat.le_of_ble_eq_true rfl) (bX11_pour_0 hM ⟨fun q => absurd h q, fun _ => ⟨fun _ => ⟨fun _ => ⟨rfl, hs⟩, fun q => absurd z2 q⟩, fun q => absurd h2 q⟩⟩), fun q => absurd z1 q⟩, fun q => absurd h2 q⟩⟩)
      · have z1 : ¬ mI M (b + 1 + 82) 2 = 0 := fun q => by
          rw [hD.1] at q
          exact hn ((nI_inj (b := 0) (by omega) (by omega)).mp q)
        have z2 : ¬ mI M (m + 1) 4 = 0 := fun q => by
          rw [w8] at q
          exact hn ((nI_inj (b := 0) (by omega) (by omega)).mp q)
        by_cases h3 : x1 ≤ mI M (m + 1) 9
        · obtain ⟨N, hN, rfl⟩ := ix_le (nb := 9999) (by omega) (Int32.le_trans (by decide) h.1) h.2
          have i9 : 1 ≤ mI M (m + 1) 9 := Int32.le_trans h.1 h3
          refine Cn.of (by decide) (Nat.le_of_ble_eq_true rfl) (bX10_pour_0 hS ⟨fun q => absurd h q, fun _ => ⟨fun _ => ⟨fun q => absurd q z1, fun _ => ⟨fun _ => ⟨_, cp_X2_pourOut G d (by omega) X M (b + 1) nb nl nx nt nd N (mI M (m + 1)) la x2 (sh9_S_house hS) hh hN (by omega) i9, ?_⟩, fun q => absurd (by rw [d1']; exact h3) q⟩⟩, fun q => absurd h2 q⟩⟩)
          rintro M12 r ⟨M3, H3, o3, R3, o12, R12, l1, l2, er⟩
          subst er
          have s12 : mI M12 (m + 1) = mI M (m + 1) := by rw [o12 _ (by omega) (by omega) (by omega) (by omega), o3 _ (by omega)]
          refine Cn.of (by decide) (Nat.le_of_ble_eq_true rfl) (bX11_pour_0 hM ⟨fun q => absurd h q, fun _ => ⟨fun _ => ⟨fun q => absurd (by rw [s12] at q; exact q) z2, fun _ => ⟨fun _ => ⟨_, cp_X11_castOut G d X M12 m (nI N) hM (by rw [s12]; exact ne0_of i9), ?_⟩, fun q => absurd (by rw [s12]; exact h3) q⟩⟩, fun q => absurd h2 q⟩⟩)
          rintro M7 ⟨e7, o7, R7⟩
          rw [s12] at e7
          have hC : Caps (fun i => mI M (m + 1) (320 + 2 * i)) nd := fun i hi => wd i hi
          have r0 : (fun i => s_cast (mI M (m + 1)) (nI N) (321 + 2 * i)) = fun i => mI M (m + 1) (321 + 2 * i) := by
            funext i
            exact s_cast_o (by omega)
          have a8 : s_cast (mI M (m + 1)) (nI N) 8 = mI M (m + 1) 8 := s_cast_o (by omega)
          refine cl_pour_66 G d hM (σ := s_cast (mI M (m + 1)) (nI N)) (by rw [s_cast_o (by omega), w8]) w9 (by omega) hC (fun i hi => s_cast_o (by omega)) M7 N N 0 x2 0 (fun i => mI M (m + 1) (321 + 2 * i)) M7 (Nat.le_refl _) hN (by rw [e7, ← r0, s_fill_own]) (fun _ _ => rfl) rfl ?_
          intro M2 time2 e2 o2 R2
          rw [a8] at e2 ⊢
          have hp : pf (fun i => mI M (m + 1) (320 + 2 * i)) nd (mI M (m + 1) 8) N (nI N) x2 0 0 (fun i => mI M (m + 1) (321 + 2 * i)) = pourR (mI M (m + 1)) nd N x2 := rfl
          rw [hp] at e2 ⊢
          generalize pourR (mI M (m + 1)) nd N x2 = R at l2 e2 ⊢
          have fo : ∀ k, k < 321 ∨ 333 ≤ k ∨ k % 2 = 0 → s_fill (s_cast (mI M (m + 1)) (nI N)) nd R.2.2 k = s_cast (mI M (m + 1)) (nI N) k := fun k hk => s_fill_o (by omega)
          have fin : ∀ M9, (∀ c, c ≠ m + 18 → c ≠ m + 19 → mI M9 c = mI M2 c) → mR M9 = mR M2 → Sim M9 b m := fun M9 o9 R9 => by
            have all : ∀ c, c ≠ m + 18 → c ≠ m + 19 → c ≠ m + 1 → c ≠ b + 81 → c ≠ b + 82 → c ≠ b + 83 → c ≠ b + 85 → mI M9 c = mI M3 c := fun c h1 h2 h3 h4 h5 h6 h7 => by rw [o9 c h1 h2, o2 c h3, o7 c h3, o12 c (by omega) (by omega) (by omega) (by omega)]
            have s9 : mI M9 (m + 1) = s_fill (s_cast (mI M (m + 1)) (nI N)) nd R.2.2 := by rw [o9 _ (by omega) (by omega), e2]
            have RR : mR M9 = mR M3 := R9.trans (R2.trans (R7.trans R12))
            obtain ⟨u0, u1, u2, u3, u4, u5, u6, u7, u8, u9, ub, uf, ul, ut, ud, us⟩ := id H3.1
            refine ⟨⟨nb, nl, nx, nt, nd, la, ?_⟩, hr.mem (fun c hc => ?_) ?_ ?_ ?_ ?_ ?_ ?_ (by rw [RR, R3]) ?_⟩
            · rw [s9]
              refine H3.small (fun k hk => fo k (by omega)) (by rw [fo _ (by omega), u6]) u7 (by rw [fo _ (by omega), u8]) u9 (fun k hk => by rw [fo _ (by omega)]; exact ut k hk) (fun k hk => by rw [fo _ (by omega)]; exact ud k hk) (by rw [fo _ (by omega), fo _ (by omega)]; exact us) ?_ ?_ (fun k hk => ?_) ⟨?_, fun k hk => ?_⟩ (fun k hk => ?_) (fun c h4 h5 h6 => all c (by omega) (by omega) (by omega) (by omega) (by omega) (by omega) (by omega)) (by rw [RR])
              · rw [all _ (by omega) (by omega) (by omega) (by omega) (by omega) (by omega) (by omega), fo _ (by omega)]
                exact H3.2.1.2.1
              · rw [all _ (by omega) (by omega) (by omega) (by omega) (by omega) (by omega) (by omega)]
              · rw [all _ (by omega) (by omega) (by omega) (by omega) (by omega) (by omega) (by omega), fo _ (by omega)]
                exact H3.2.1.2.2.2 k hk
              · rw [o9 _ (by omega) (by omega), o2 _ (by omega), o7 _ (by omega)]
                exact l1
              · refine ⟨?_, ?_⟩
                · rw [all _ (by omega) (by omega) (by omega) (by omega) (by omega) (by omega) (by omega), fo _ (by omega)]
                  exact (H3.2.2.2.2.1.2 k hk).1
                · rw [o9 _ (by omega) (by omega), o2 _ (by omega), o7 _ (by omega), s_fill_at hk]
                  exact l2 k hk
              · rw [all _ (by omega) (by omega) (by omega) (by omega) (by omega) (by omega) (by omega), fo _ (by omega)]
                exact H3.2.2.2.2.2 k hk
            · unfold RestK at hc
              rw [all c (by omega) (by omega) (by omega) (by omega) (by omega) (by omega) (by omega), o3 c (by omega)]
            · rw [all _ (by omega) (by omega) (by omega) (by omega) (by omega) (by omega) (by omega), o3 _ (by omega)]
            · rw [all _ (by omega) (by omega) (by omega) (by omega) (by omega) (by omega) (by omega), o3 _ (by omega)]
            · rw [all _ (by omega) (by omega) (by omega) (by omega) (by omega) (by omega) (by omega), o3 _ (by omega)]
            · rw [all _ (by omega) (by omega) (by omega) (by omega) (by omega) (by omega) (by omega), o3 _ (by omega)]
            · rw [all _ (by omega) (by omega) (by omega) (by omega) (by omega) (by omega) (by omega), o3 _ (by omega)]
            · rw [all _ (by omega) (by omega) (by omega) (by omega) (by omega) (by omega) (by omega), o3 _ (by omega)]
            · obtain ⟨la3, p⟩ := hr.2.1.2
              exact ⟨la3, p.mR (by rw [RR, R3])⟩
          have T2 : ∀ t, t < nx → T_ok (mI M2 (m + 1)) t := fun t ht => (hT.2 t ht).2.2.2.1.cong (fun k hk => by rw [e2, s_fill_o (by omega), s_cast_o (by omega)])
          have c2 : mI M2 (m + 1) 2 = nI nx := by rw [e2, fo _ (by omega), s_cast_o (by omega), w4]
          refine bX11_pour_66 hM ⟨fun _ => ⟨_, cp_X11_counts G d (by omega) X M2 m nx 7 hM c2 w5, ?_⟩, fun q => absurd (Int32.le_refl _) q⟩
          rintro M4 r5 ⟨e, e5⟩
          have e := e.symm
          subst e
          intro M5 e51 M8 e8
          have o8 : ∀ c, c ≠ m + 18 → mI M8 c = mI M2 c := fun c hc => by rw [e8, mI_sI, up2_off _ _ _ hc, e51, mI_sI, up2_off _ _ _ hc]
          have R8 : mR M8 = mR M2 := by
            rw [e8, e51]
            rfl
          have s8 : mI M8 (m + 1) = mI M2 (m + 1) := o8 _ (by omega)
          rw [← e2]
          rcases s_counts_spec (mI M2 (m + 1)) 7 nx with g1 | ⟨t, g1, g2, g3⟩
          · rw [g1] at e5
            subst e5
            refine ⟨fun q => absurd q (by decide), fun _ => ⟨?_, fin M8 (fun c h1 _ => o8 c h1) R8⟩⟩
            unfold s_late
            rw [g1, if_pos (by decide)]
          · rw [g2] at e5
            subst e5
            refine ⟨fun _ => ⟨_, cp_X11_worked G d (by omega) X M8 m t hM (by omega) (by rw [s8]; exact T2 t g1), ?_⟩, fun q => absurd (nI_pos' (by omega)) q⟩
            rintro M9 r13 ⟨e13, o13, R13⟩
            refine ⟨?_, fin M9 (fun c h1 h2 => by rw [o13 c h2, o8 c h1]) (R13.trans R8)⟩
            have hw : s_worth (mI M2 (m + 1)) t (e_late (mI M2 (m + 1)) (nI R.2.1)) = r13 := by
              rw [e13, s8]
              refine worth_cong (T2 t g1) (fun c hc => ?_)
              rw [g3] at hc
              rw [e8, e51]
              rcases nm_7 hc with rfl | rfl
              · simp [mI_sI, up2, e_late]
              · simp [mI_sI, up2, e_late]
            unfold s_late
            rw [if_neg (counts_neg g1 w5 g2), g2, nI_clamp (by omega), hw]
        · exact Cn.of (by decide) (Nat.le_of_ble_eq_true rfl) (bX10_pour_0 hS ⟨fun q => absurd h q, fun _ => ⟨fun _ => ⟨fun q => absurd q z1, fun _ => ⟨fun q => absurd (by rw [d1'] at q; exact q) h3, fun _ => Cn.of (by decide) (Nat.le_of_ble_eq_true rfl) (bX11_pour_0 hM ⟨fun q => absurd h q, fun _ => ⟨fun _ => ⟨fun q => absurd q z2, fun _ => ⟨fun q => absurd q h3, fun _ => ⟨rfl, hs⟩⟩⟩, fun q => absurd h2 q⟩⟩)⟩⟩, fun q => absurd h2 q⟩⟩)
    · exact Cn.of (by decide) (Nat.le_of_ble_eq_true rfl) (bX10_pour_0 hS ⟨fun q => absurd h q, fun _ => ⟨fun q => absurd q h2, fun _ => Cn.of (by decide) (Nat.le_of_ble_eq_true rfl) (bX11_pour_0 hM ⟨fun q => absurd h q, fun _ => ⟨fun q => absurd q h2, fun _ => ⟨rfl, hs⟩⟩⟩)⟩⟩)
  · exact Cn.of (by decide) (Nat.le_of_ble_eq_true rfl) (bX10_pour_0 hS ⟨fun _ => Cn.of (by decide) (Nat.le_of_ble_eq_true rfl) (bX11_pour_0 hM ⟨fun _ => ⟨rfl, hs⟩, fun q => absurd q h⟩), fun q => absurd q h⟩)
