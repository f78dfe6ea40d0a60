/-! sound: the known place ahead -/
theorem bX5_knownAhead_0 {G : Gl} {d : Nat} {X : Sh} {M : Mm} {Q : Mm → Int32 → Prop} {a : Nat} {x1 : Int32} (hS : Sh5 X a) (h : (∀ v1 : Int32, v1 = (x1 - 1) → Wn G m_X5_knownAhead d 4 [(0, .ref a), (2, .int v1)] [] X M Q)) : Wn G m_X5_knownAhead d 0 [(0, .ref a), (1, .int x1)] [] X M Q := by
  refine wp_iload_n 1 dX5_knownAhead_0 rfl rfl ?_
  refine wp_iconst (v := 1) dX5_knownAhead_1 rfl ?_
  refine wp_isub dX5_knownAhead_2 ?_
  refine wp_topi (fun v1 ev1 => ?_)
  replace h := h v1 ev1
  refine wp_istore_n (lo2 := [(2, .int _), (0, .ref _), (1, .int _)]) dX5_knownAhead_3 rfl (by decide) rfl ?_
  exact Wp.sub [1, 0] rfl h
theorem bX5_knownAhead_4 {G : Gl} {d : Nat} {X : Sh} {M : Mm} {Q : Mm → Int32 → Prop} {a : Nat} {x2 : Int32} (hS : Sh5 X a) (h : ((x2 < 0 → Q M (-1)) ∧ (¬ (x2 < 0) → (∃ j2 : Nat, x2 = nI j2 ∧ j2 < 24 ∧ ((¬ ((mI M (a + 2) j2 &&& 1) = 0) → Wn G m_X5_knownAhead d 4 [(0, .ref a), (2, .int (x2 + (-1)))] [] X M Q) ∧ ((mI M (a + 2) j2 &&& 1) = 0 → Q M x2)))))) : Wn G m_X5_knownAhead d 4 [(0, .ref a), (2, .int x2)] [] X M Q := by
  refine wp_iload_n 1 dX5_knownAhead_4 rfl rfl ?_
  refine wp_if_lt (tgt := 25) dX5_knownAhead_5 (by decide) (fun c1 => ?_) (fun c1 => ?_)
  · replace h := h.1 c1
    refine wp_iconst (v := (-1)) dX5_knownAhead_25 rfl ?_
    exact wn_iret dX5_knownAhead_26 rfl h
  · replace h := h.2 c1
    refine wp_aload_n 0 dX5_knownAhead_8 rfl rfl ?_
    refine wp_getR dX5_knownAhead_9 fl_RX5_22 rfl (sh5_K hS) (sh5_F_lost hS) ?_
    refine wp_iload_n 1 dX5_knownAhead_12 rfl rfl ?_
    obtain ⟨j2, o3, o4, h⟩ := h
    refine wp_zald (n := 24) dX5_knownAhead_13 (sh5_K_lost hS) (sh5_N_lost hS) (by decide) o3 o4 ?_
    refine wp_if_ne (tgt := 19) dX5_knownAhead_14 (by decide) (fun c5 => ?_) (fun c5 => ?_)
    · replace h := h.1 c5
      refine wp_iinc (v := x2 + (-1)) (lo2 := [(2, .int _), (0, .ref _)]) dX5_knownAhead_19 (q := 1) rfl rfl (by decide) rfl ?_
      refine wp_goto (tgt := 4) dX5_knownAhead_22 (by decide) ?_
      exact Wp.sub [1, 0] rfl h
    · replace h := h.2 c5
      refine wp_iload_n 1 dX5_knownAhead_17 rfl rfl ?_
      exact wn_iret dX5_knownAhead_18 rfl h
/-- the last of the first p places that is a number -/
def kA (x : Nat → Int32) : Nat → Option Nat
  | 0 => none
  | p + 1 => if x p = -1000000005 then kA x p else some p
def kAi (x : Nat → Int32) (p : Nat) : Int32 := match kA x p with
  | none => -1
  | some i => nI i
theorem kA_lt {x : Nat → Int32} {i : Nat} : ∀ {p : Nat}, kA x p = some i → i < p ∧ ¬ x i = -1000000005
  | 0, h => by cases h
  | p + 1, h => by
    have h' : (if x p = -1000000005 then kA x p else some p) = some i := h
    by_cases q : x p = -1000000005
    · rw [if_pos q] at h'
      have := kA_lt h'
      exact ⟨by omega, this.2⟩
    · rw [if_neg q] at h'
      cases h'
      exact ⟨by omega, q⟩
def Cells (M : Mm) (a : Nat) (x : Nat → Int32) : Prop := ∀ j, j < 24 → Cell (mI M (a + 1) j) (mI M (a + 2) j) (x j)
theorem cell_lost {v l x : Int32} (h : Cell v l x) : (l &&& 1 = 0 ↔ ¬ x = -1000000005) := by
  rcases h with ⟨h1, h2⟩ | ⟨h1, h2, _⟩
  · rw [h2]
    exact ⟨fun q => absurd q (by decide), fun q => absurd h1 q⟩
  · rw [h2]
    exact ⟨fun _ => h1, fun _ => by decide⟩
theorem cl_knownAhead (G : Gl) (d : Nat) {X : Sh} {M : Mm} {a : Nat} {x : Nat → Int32} {Q : Mm → Int32 → Prop} (hS : Sh5 X a) (hc : Cells M a x) : ∀ p, p ≤ 24 → Q M (kAi x p) → Wn G m_X5_knownAhead d 4 [(0, .ref a), (2, .int (nI p + (-1)))] [] X M Q
  | 0, _, hq => bX5_knownAhead_4 hS ⟨fun _ => hq, fun q => absurd (by decide) q⟩
  | p + 1, hp, hq => by
    have h := cell_lost (hc p (by omega))
    have e : kAi x (p + 1) = if x p = -1000000005 then kAi x p else nI p := by
      unfold kAi
      show (match (if x p = -1000000005 then kA x p else some p) with | none => -1 | some i => nI i) = _
      by_cases q : x p = -1000000005
      · rw [if_pos q, if_pos q]
      · rw [if_neg q, if_neg q]
    rw [e] at hq
    rw [pk_m1]
    refine bX5_knownAhead_4 hS ⟨fun q => absurd q (nI_pos (by omega)), fun _ => ⟨p, rfl, by omega, fun q => ?_, fun q => ?_⟩⟩
    · by_cases z : x p = -1000000005
      · rw [if_pos z] at hq
        exact cl_knownAhead G d hS hc p (by omega) hq
      · exact absurd (h.mpr z) q
    · rw [if_neg (h.mp q)] at hq
      exact hq
theorem cp_X5_knownAhead (G : Gl) (d : Nat) (X : Sh) (M : Mm) (a p : Nat) (x : Nat → Int32) (hS : Sh5 X a) (hc : Cells M a x) (hp : p ≤ 24) : Cn G m_X5_knownAhead d [.ref a, .int (nI p)] X M (fun M2 r => M2 = M ∧ r = kAi x p) := by
  refine Cn.of (by decide) (Nat.le_of_ble_eq_true rfl) (bX5_knownAhead_0 hS ?_)
  rintro v1 rfl
  have e : nI p - 1 = nI p + (-1) := Int32.sub_eq_add_neg _ _
  rw [e]
  exact cl_knownAhead G d hS hc p hp ⟨rfl, rfl⟩
