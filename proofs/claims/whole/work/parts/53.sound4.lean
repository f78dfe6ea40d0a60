/-! the call sound -/
theorem case_sound (G : Gl) (d : Nat) (hd : 8 ≤ d) (X : Sh) (b m : Nat) (hS : Sh9 X b) (hM : Sh10 X m) (x1 x2 x3 : Int32) : Case G d X b m m_X10_sound m_X11_sound [.int x1, .int x2, .int x3] := by
  obtain ⟨d, rfl⟩ : ∃ d1, d = d1 + 1 := ⟨d - 1, by omega⟩
  refine Case.pure (fun M nb nl nx nt nd la hh hr => ?_)
  obtain ⟨_, _, _, hsh, _⟩ := hr
  obtain ⟨d, rfl⟩ : ∃ d1, d = d1 + 1 := ⟨d - 1, by omega⟩
  by_cases h : 0 ≤ x1 ∧ x1 ≤ 3
  · obtain ⟨i, hi, rfl⟩ := ix_le (nb := 3) (by omega) h.1 h.2
    have hS5 := sh9_ES_sheets hS i (by omega)
    obtain ⟨s0, s1, ⟨N, hN, n1, n2⟩, s3⟩ := hsh i (by omega)
    have hc : Cells M (b + 232 + 3 * i) (fun j => mI M (m + 6) (24 * i + j)) := fun j hj => by
      rw [show b + 232 + 3 * i + 1 = b + 233 + 3 * i by omega, show b + 232 + 3 * i + 2 = b + 234 + 3 * i by omega]
      exact s3 j hj
    have cH : Cn G m_X5_hangs (d + 1) [.ref (b + 232 + 3 * i)] X M (fun M2 r => M2 = M ∧ r = (sd (fun j => mI M (m + 6) (24 * i + j)) x3 N).1) := Cn.of (by decide) (Nat.le_of_ble_eq_true rfl) (bX5_hangs_0 hS5 (cl_hangs G d (n := x3) hS5 hN hc n1 ⟨rfl, rfl⟩ N 0 (by omega)))
    have cS : Cn G m_X5_slips (d + 1) [.ref (b + 232 + 3 * i), .int x3] X M (fun M2 r => M2 = M ∧ r = (sd (fun j => mI M (m + 6) (24 * i + j)) x3 N).2.2) := Cn.of (by decide) (Nat.le_of_ble_eq_true rfl) (bX5_slips_0 hS5 (cl_slips G d (n := x3) hS5 hN hc n1 ⟨rfl, rfl⟩ N 0 (by omega)))
    by_cases h2 : 0 ≤ x2 ∧ x2 ≤ 1
    · by_cases hm : mI M (m + 4) i = -1
      · have ng : ¬ 0 ≤ mI M (m + 4) i := by
          rw [hm]
          decide
        by_cases hx : x2 = 1
        · by_cases h3 : 0 ≤ x3 ∧ x3 ≤ 9999
          · exact ⟨-1000000011, Cn.of (by decide) (Nat.le_of_ble_eq_true rfl) (bX10_sound_0 hS (by omega) ⟨fun q => absurd h q, fun _ => ⟨fun q => absurd h2 q, fun _ => ⟨fun q => absurd hx q, fun _ => ⟨fun _ => ⟨i, rfl, by omega, fun q => absurd (s0.trans hm) q, fun _ => ⟨rfl, rfl⟩⟩, fun q => absurd h3 q⟩⟩⟩⟩), Cn.of (by decide) (Nat.le_of_ble_eq_true rfl) (bX11_sound_0 hM (by omega) ⟨fun q => absurd h q, fun _ => ⟨fun q => absurd h2 q, fun _ => ⟨fun q => absurd hx q, fun _ => ⟨fun _ => ⟨i, rfl, by omega, fun q => absurd q ng, fun _ => ⟨rfl, rfl⟩⟩, fun q => absurd h3 q⟩⟩⟩⟩)⟩
          · exact ⟨-1000000001, Cn.of (by decide) (Nat.le_of_ble_eq_true rfl) (bX10_sound_0 hS (by omega) ⟨fun q => absurd h q, fun _ => ⟨fun q => absurd h2 q, fun _ => ⟨fun q => absurd hx q, fun _ => ⟨fun q => absurd q h3, fun _ => ⟨rfl, rfl⟩⟩⟩⟩⟩), Cn.of (by decide) (Nat.le_of_ble_eq_true rfl) (bX11_sound_0 hM (by omega) ⟨fun q => absurd h q, fun _ => ⟨fun q => absurd h2 q, fun _ => ⟨fun q => absurd hx q, fun _ => ⟨fun q => absurd q h3, fun _ => ⟨rfl, rfl⟩⟩⟩⟩⟩)⟩
        · exact ⟨-1000000011, Cn.of (by decide) (Nat.le_of_ble_eq_true rfl) (bX10_sound_0 hS (by omega) ⟨fun q => absurd h q, fun _ => ⟨fun q => absurd h2 q, fun _ => ⟨fun _ => ⟨i, rfl, by omega, fun q => absurd (s0.trans hm) q, fun _ => ⟨rfl, rfl⟩⟩, fun q => absurd q hx⟩⟩⟩), Cn.of (by decide) (Nat.le_of_ble_eq_true rfl) (bX11_sound_0 hM (by omega) ⟨fun q => absurd h q, fun _ => ⟨fun q => absurd h2 q, fun _ => ⟨fun _ => ⟨i, rfl, by omega, fun q => absurd q ng, fun _ => ⟨rfl, rfl⟩⟩, fun q => absurd q hx⟩⟩⟩)⟩
      · have c1 : ¬ mI M (b + 232 + 3 * i) 0 = -1 := fun q => hm (s0.symm.trans q)
        have pg : 0 ≤ mI M (m + 4) i := by
          rcases s1 with q | q | q
          · exact absurd q hm
          · rw [q]
            decide
          · rw [q]
            decide
        have ref : ∀ Q : Mm → Int32 → Prop, Q M (if x2 = 0 then (sd (fun j => mI M (m + 6) (24 * i + j)) x3 N).1 else (sd (fun j => mI M (m + 6) (24 * i + j)) x3 N).2.2) → Wn G m_X11_sound (d + 1 + 1) 66 [(0, .ref m), (1, .int (nI i)), (2, .int x2), (3, .int x3), (4, .int 0), (5, .int 0), (6, .int 0), (7, .int (-1000000005)), (8, .int 0)] [] X M Q := fun Q hq => cl_X11_sound G (d + 1) hM (by omega) hN n2 (fun j _ => rfl) hq N 0 (by omega)
        by_cases hx : x2 = 1
        · have nx0 : ¬ x2 = 0 := by
            rw [hx]
            decide
          by_cases h3 : 0 ≤ x3 ∧ x3 ≤ 9999
          · refine ⟨_, Cn.of (by decide) (Nat.le_of_ble_eq_true rfl) (bX10_sound_0 hS (by omega) ⟨fun q => absurd h q, fun _ => ⟨fun q => absurd h2 q, fun _ => ⟨fun q => absurd hx q, fun _ => ⟨fun _ => ⟨i, rfl, by omega, fun _ => ⟨fun _ => ⟨_, cS, fun M11 r12 q => q⟩, fun q => absurd q nx0⟩, fun q => absurd q c1⟩, fun q => absurd h3 q⟩⟩⟩⟩), Cn.of (by decide) (Nat.le_of_ble_eq_true rfl) (bX11_sound_0 hM (by omega) ⟨fun q => absurd h q, fun _ => ⟨fun q => absurd h2 q, fun _ => ⟨fun q => absurd hx q, fun _ => ⟨fun _ => ⟨i, rfl, by omega, fun _ => ref _ ⟨rfl, if_neg nx0⟩, fun q => absurd pg q⟩, fun q => absurd h3 q⟩⟩⟩⟩)⟩
          · exact ⟨-1000000001, Cn.of (by decide) (Nat.le_of_ble_eq_true rfl) (bX10_sound_0 hS (by omega) ⟨fun q => absurd h q, fun _ => ⟨fun q => absurd h2 q, fun _ => ⟨fun q => absurd hx q, fun _ => ⟨fun q => absurd q h3, fun _ => ⟨rfl, rfl⟩⟩⟩⟩⟩), Cn.of (by decide) (Nat.le_of_ble_eq_true rfl) (bX11_sound_0 hM (by omega) ⟨fun q => absurd h q, fun _ => ⟨fun q => absurd h2 q, fun _ => ⟨fun q => absurd hx q, fun _ => ⟨fun q => absurd q h3, fun _ => ⟨rfl, rfl⟩⟩⟩⟩⟩)⟩
        · have x0 : x2 = 0 := by
            obtain ⟨v, hv, rfl⟩ := ix_le (nb := 1) (by omega) h2.1 h2.2
            match v, hv with
            | 0, _ => rfl
            | 1, _ => exact absurd rfl hx
          refine ⟨_, Cn.of (by decide) (Nat.le_of_ble_eq_true rfl) (bX10_sound_0 hS (by omega) ⟨fun q => absurd h q, fun _ => ⟨fun q => absurd h2 q, fun _ => ⟨fun _ => ⟨i, rfl, by omega, fun _ => ⟨fun q => absurd x0 q, fun _ => ⟨_, cH, fun M11 r12 q => q⟩⟩, fun q => absurd q c1⟩, fun q => absurd q hx⟩⟩⟩), Cn.of (by decide) (Nat.le_of_ble_eq_true rfl) (bX11_sound_0 hM (by omega) ⟨fun q => absurd h q, fun _ => ⟨fun q => absurd h2 q, fun _ => ⟨fun _ => ⟨i, rfl, by omega, fun _ => ref _ ⟨rfl, if_pos x0⟩, fun q => absurd pg q⟩, fun q => absurd q hx⟩⟩⟩)⟩
    · exact ⟨-1000000001, Cn.of (by decide) (Nat.le_of_ble_eq_true rfl) (bX10_sound_0 hS (by omega) ⟨fun q => absurd h q, fun _ => ⟨fun _ => ⟨rfl, rfl⟩, fun q => absurd q h2⟩⟩), Cn.of (by decide) (Nat.le_of_ble_eq_true rfl) (bX11_sound_0 hM (by omega) ⟨fun q => absurd h q, fun _ => ⟨fun _ => ⟨rfl, rfl⟩, fun q => absurd q h2⟩⟩)⟩
  · exact ⟨-1000000001, Cn.of (by decide) (Nat.le_of_ble_eq_true rfl) (bX10_sound_0 hS (by omega) ⟨fun _ => ⟨rfl, rfl⟩, fun q => absurd q h⟩), Cn.of (by decide) (Nat.le_of_ble_eq_true rfl) (bX11_sound_0 hM (by omega) ⟨fun _ => ⟨rfl, rfl⟩, fun q => absurd q h⟩)⟩
