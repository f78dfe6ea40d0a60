/-! constructors: the classes whose fields are rows alone -/
theorem sI_0 {M : Mm} {a k : Nat} (h : mI M a k = 0) : sI M a k 0 = M := by
  have e : up2 (mI M) a k 0 = mI M := by
    funext b j
    by_cases q : b = a ∧ j = k
    · obtain ⟨rfl, rfl⟩ := q
      rw [up2_same, h]
    · unfold up2
      rw [if_neg q]
  show (up2 (mI M) a k 0, mJ M, mR M) = M
  rw [e]
  rfl
/-- behind so many rows that a's maker has made: the world X0 as it was, a's fields of them -/
def Lay (X0 X : Sh) (a : Nat) (l : List (Nat × Nat × Nat)) : Prop := (xz X = xz X0 + l.length) ∧ (∀ c, c < xz X0 → xK X c = xK X0 c ∧ xN X c = xN X0 c) ∧ (∀ c, c ≠ a → xF X c = xF X0 c) ∧ (∀ k, (∀ p ∈ l, p.1 ≠ k) → xF X a k = xF X0 a k) ∧ (∀ i, i < l.length → xK X (xz X0 + i) = (l.getD i (0, 0, 0)).2.1 ∧ xN X (xz X0 + i) = (l.getD i (0, 0, 0)).2.2 ∧ xF X a (l.getD i (0, 0, 0)).1 = some (xz X0 + i))
theorem Lay.z {X0 X : Sh} {a : Nat} {l : List (Nat × Nat × Nat)} (h : Lay X0 X a l) : xz X = xz X0 + l.length := h.1
theorem Lay.old {X0 X : Sh} {a : Nat} {l : List (Nat × Nat × Nat)} (h : Lay X0 X a l) : ∀ c, c < xz X0 → xK X c = xK X0 c ∧ xN X c = xN X0 c := h.2.1
theorem Lay.oldF {X0 X : Sh} {a : Nat} {l : List (Nat × Nat × Nat)} (h : Lay X0 X a l) : ∀ c, c ≠ a → xF X c = xF X0 c := h.2.2.1
theorem Lay.oldk {X0 X : Sh} {a : Nat} {l : List (Nat × Nat × Nat)} (h : Lay X0 X a l) : ∀ k, (∀ p ∈ l, p.1 ≠ k) → xF X a k = xF X0 a k := h.2.2.2.1
theorem Lay.got {X0 X : Sh} {a : Nat} {l : List (Nat × Nat × Nat)} (h : Lay X0 X a l) : ∀ i, i < l.length → xK X (xz X0 + i) = (l.getD i (0, 0, 0)).2.1 ∧ xN X (xz X0 + i) = (l.getD i (0, 0, 0)).2.2 ∧ xF X a (l.getD i (0, 0, 0)).1 = some (xz X0 + i) := h.2.2.2.2
theorem Lay.nil (X : Sh) (a : Nat) : Lay X X a [] := ⟨rfl, fun _ _ => ⟨rfl, rfl⟩, fun _ _ => rfl, fun _ _ => rfl, fun i hi => absurd hi (Nat.not_lt_zero i)⟩
theorem Lay.row {X0 X : Sh} {a k K N : Nat} {l : List (Nat × Nat × Nat)} (h : Lay X0 X a l) (ha : a < xz X0) (hk : ∀ p ∈ l, p.1 ≠ k) : Lay X0 (xSet (xAdd X K N) a k (xz X)) a (l ++ [(k, K, N)]) := by
  have hz := h.z
  refine ⟨?_, fun c hc => ⟨?_, ?_⟩, fun c hc => ?_, fun k2 hk2 => ?_, fun i hi => ?_⟩
  · show xz X + 1 = _
    rw [List.length_append, hz]
    rfl
  · show va_up (xK X) (xz X) K c = _
    rw [va_up_ne _ _ (by omega)]
    exact (h.old c hc).1
  · show va_up (xN X) (xz X) N c = _
    rw [va_up_ne _ _ (by omega)]
    exact (h.old c hc).2
  · show up2 (xF X) a k _ c = _
    rw [up2_off _ _ _ hc]
    exact h.oldF c hc
  · show up2 (xF X) a k _ a k2 = _
    have n1 : k2 ≠ k := fun e => hk2 (k, K, N) (List.mem_append.mpr (Or.inr List.mem_cons_self)) e.symm
    rw [up2_k _ _ _ n1]
    exact h.oldk k2 (fun p hp => hk2 p (List.mem_append.mpr (Or.inl hp)))
  · rw [List.length_append] at hi
    have hi : i < l.length + 1 := hi
    by_cases q : i < l.length
    · obtain ⟨g1, g2, g3⟩ := h.got i q
      have e : (l ++ [(k, K, N)]).getD i (0, 0, 0) = l.getD i (0, 0, 0) := by
        rw [List.getD_eq_getElem?_getD, List.getElem?_append_left q, ← List.getD_eq_getElem?_getD]
      rw [e]
      refine ⟨?_, ?_, ?_⟩
      · show va_up (xK X) (xz X) K (xz X0 + i) = _
        rw [va_up_ne _ _ (by omega)]
        exact g1
      · show va_up (xN X) (xz X) N (xz X0 + i) = _
        rw [va_up_ne _ _ (by omega)]
        exact g2
      · show up2 (xF X) a k _ a _ = _
        have n1 : (l.getD i (0, 0, 0)).1 ≠ k := by
          refine hk _ ?_
          rw [List.getD_eq_getElem?_getD, List.getElem?_eq_getElem q]
          exact List.getElem_mem q
        rw [up2_k _ _ _ n1]
        exact g3
    · have ei : i = l.length := by omega
      subst ei
      have e : (l ++ [(k, K, N)]).getD l.length (0, 0, 0) = (k, K, N) := by
        rw [List.getD_eq_getElem?_getD, List.getElem?_append_right (Nat.le_refl _), Nat.sub_self]
        rfl
      rw [e, ← hz]
      refine ⟨va_up_self _ _ _, va_up_self _ _ _, ?_⟩
      show up2 (xF X) a k _ a k = _
      rw [up2_same]
section CT1
variable {G : Gl} {y : Md} {d mc ms ce sl pc : Nat} {lo : List (Nat × Value)} {st : List Value} {X X0 : Sh} {M : Mm} {Q : Sh → Mm → Option Value → Prop}
theorem wp_put0 {a ci k idx : Nat} (hd : decode y.2.1 pc = .ok (.putfield idx, 3)) (hf : FLu y.1.cls idx ci k .int) (hr : fRef ci k = false) (ha : xK X a = ci) (hz : mI M a k = 0) (kk : Wp G y d mc ms ce sl (pc + 3) lo st X M Q) : Wp G y d mc ms ce sl pc lo (.int 0 :: .ref a :: st) X M Q :=
  wp_putI hd hf hr ha (by rw [sI_0 hz]; exact kk)
theorem wp_rowi {n : Int32} {a N k idx ci : Nat} {l : List (Nat × Nat × Nat)} (hd1 : decode y.2.1 pc = .ok (.newarray .int, 2)) (hd2 : decode y.2.1 (pc + 2) = .ok (.putfield idx, 3)) (hf : FLt y.1.cls idx ci k true (.array .int)) (hr : fRef ci k = true) (ha : xK X0 a = ci) (hL : Lay X0 X a l) (ha0 : a < xz X0) (hk : ∀ p ∈ l, p.1 ≠ k) (hni : y.1.name = "<init>") (hn : n = nI N) (hN : N ≤ 1000000) (h1 : ce + 1 ≤ mc) (h2 : sl + N ≤ ms) (hz0 : ∀ c j, xz X0 ≤ c → mI M c j = 0) (kk : ∀ X2, Lay X0 X2 a (l ++ [(k, 11, N)]) → Wp G y d mc ms (ce + 1) (sl + N) (pc + 2 + 3) lo st X2 M Q) : Wp G y d mc ms ce sl pc lo (.int n :: .ref a :: st) X M Q := by
  have hz := hL.z
  refine wp_newi hd1 hn hN h1 h2 (fun j => hz0 _ j (by omega)) ?_
  refine wp_putR hd2 hf hr ?_ hni rfl rfl (kk _ (hL.row ha0 hk))
  show va_up (xK X) (xz X) 11 a = ci
  rw [va_up_ne _ _ (by omega), (hL.old a ha0).1, ha]
theorem wp_rowl {n : Int32} {a N k idx ci : Nat} {l : List (Nat × Nat × Nat)} (hd1 : decode y.2.1 pc = .ok (.newarray .long, 2)) (hd2 : decode y.2.1 (pc + 2) = .ok (.putfield idx, 3)) (hf : FLt y.1.cls idx ci k true (.array .long)) (hr : fRef ci k = true) (ha : xK X0 a = ci) (hL : Lay X0 X a l) (ha0 : a < xz X0) (hk : ∀ p ∈ l, p.1 ≠ k) (hni : y.1.name = "<init>") (hn : n = nI N) (hN : N ≤ 1000000) (h1 : ce + 1 ≤ mc) (h2 : sl + N ≤ ms) (hz0 : ∀ c j, xz X0 ≤ c → mJ M c j = 0) (kk : ∀ X2, Lay X0 X2 a (l ++ [(k, 12, N)]) → Wp G y d mc ms (ce + 1) (sl + N) (pc + 2 + 3) lo st X2 M Q) : Wp G y d mc ms ce sl pc lo (.int n :: .ref a :: st) X M Q := by
  have hz := hL.z
  refine wp_newl hd1 hn hN h1 h2 (fun j => hz0 _ j (by omega)) ?_
  refine wp_putR hd2 hf hr ?_ hni rfl rfl (kk _ (hL.row ha0 hk))
  show va_up (xK X) (xz X) 12 a = ci
  rw [va_up_ne _ _ (by omega), (hL.old a ha0).1, ha]
theorem wp_rowz {n : Int32} {a N k idx ci : Nat} {l : List (Nat × Nat × Nat)} (hd1 : decode y.2.1 pc = .ok (.newarray .boolean, 2)) (hd2 : decode y.2.1 (pc + 2) = .ok (.putfield idx, 3)) (hf : FLt y.1.cls idx ci k true (.array .boolean)) (hr : fRef ci k = true) (ha : xK X0 a = ci) (hL : Lay X0 X a l) (ha0 : a < xz X0) (hk : ∀ p ∈ l, p.1 ≠ k) (hni : y.1.name = "<init>") (hn : n = nI N) (hN : N ≤ 1000000) (h1 : ce + 1 ≤ mc) (h2 : sl + N ≤ ms) (hz0 : ∀ c j, xz X0 ≤ c → mI M c j = 0) (kk : ∀ X2, Lay X0 X2 a (l ++ [(k, 13, N)]) → Wp G y d mc ms (ce + 1) (sl + N) (pc + 2 + 3) lo st X2 M Q) : Wp G y d mc ms ce sl pc lo (.int n :: .ref a :: st) X M Q := by
  have hz := hL.z
  refine wp_newz hd1 hn hN h1 h2 (fun j => hz0 _ j (by omega)) ?_
  refine wp_putR hd2 hf hr ?_ hni rfl rfl (kk _ (hL.row ha0 hk))
  show va_up (xK X) (xz X) 13 a = ci
  rw [va_up_ne _ _ (by omega), (hL.old a ha0).1, ha]
end CT1
theorem ft_RX0_9 : FLt RX0 9 0 0 true (tyX0 0) := ⟨by decide, by decide, RX0, TX0, tyX0, rfl, uw0, fw_RX0_9, rfl, rfl, tyX0_ok 0 (by decide), tyX0_ok, nmX0⟩
theorem ft_RX0_15 : FLt RX0 15 0 1 true (tyX0 1) := ⟨by decide, by decide, RX0, TX0, tyX0, rfl, uw0, fw_RX0_15, rfl, rfl, tyX0_ok 1 (by decide), tyX0_ok, nmX0⟩
theorem ft_RX0_18 : FLt RX0 18 0 2 true (tyX0 2) := ⟨by decide, by decide, RX0, TX0, tyX0, rfl, uw0, fw_RX0_18, rfl, rfl, tyX0_ok 2 (by decide), tyX0_ok, nmX0⟩
theorem ft_RX0_21 : FLt RX0 21 0 3 true (tyX0 3) := ⟨by decide, by decide, RX0, TX0, tyX0, rfl, uw0, fw_RX0_21, rfl, rfl, tyX0_ok 3 (by decide), tyX0_ok, nmX0⟩
theorem ft_RX0_24 : FLt RX0 24 0 4 true (tyX0 4) := ⟨by decide, by decide, RX0, TX0, tyX0, rfl, uw0, fw_RX0_24, rfl, rfl, tyX0_ok 4 (by decide), tyX0_ok, nmX0⟩
theorem ft_RX0_31 : FLt RX0 31 0 6 true (tyX0 6) := ⟨by decide, by decide, RX0, TX0, tyX0, rfl, uw0, fw_RX0_31, rfl, rfl, tyX0_ok 6 (by decide), tyX0_ok, nmX0⟩
theorem cl_X0_init (G : Gl) (d : Nat) (hd : 1 ≤ d) (X : Sh) (M : Mm) (a : Nat) (ha : xK X a = 0) (hx : xz X = a + 1) (hM : ∀ c j, a ≤ c → mI M c j = 0) : Cl G m_X0_init d 6 33 [.ref a] X M (fun X2 M2 v => v = none ∧ M2 = M ∧ Lay X X2 a [(0, 11, 6), (1, 11, 6), (2, 11, 6), (3, 11, 6), (4, 11, 6), (6, 11, 3)]) := by
  obtain ⟨d, rfl⟩ : ∃ d1, d = d1 + 1 := ⟨d - 1, by omega⟩
  have L0 := Lay.nil X a
  have hz0 : ∀ c j, xz X ≤ c → mI M c j = 0 := fun c j hc => hM c j (by omega)
  have hs0 : ∀ k, k ≠ 99 → mI M a k = 0 := fun k _ => hM a k (Nat.le_refl _)
  refine Cl.of (by decide) (Nat.le_of_ble_eq_true rfl) ?_
  refine wp_aload_n 0 dX0_init_0 rfl rfl ?_
  refine wp_objInit dX0_init_1 oi_RX0_3 oi_2 oi_3 (Nat.le_of_ble_eq_true rfl) ?_
  refine wp_aload_n 0 dX0_init_4 rfl rfl ?_
  refine wp_bipush (v := 6) dX0_init_5 rfl ?_
  refine wp_rowi (k := 0) (N := 6) dX0_init_7 dX0_init_9 ft_RX0_9 rfl ha L0 (by omega) (by decide) rfl rfl (by decide) (by omega) (by omega) hz0 (fun X1 L1 => ?_)
  refine wp_aload_n 0 dX0_init_12 rfl rfl ?_
  refine wp_bipush (v := 6) dX0_init_13 rfl ?_
  refine wp_rowi (k := 1) (N := 6) dX0_init_15 dX0_init_17 ft_RX0_15 rfl ha L1 (by omega) (by decide) rfl rfl (by decide) (by omega) (by omega) hz0 (fun X2 L2 => ?_)
  refine wp_aload_n 0 dX0_init_20 rfl rfl ?_
  refine wp_bipush (v := 6) dX0_init_21 rfl ?_
  refine wp_rowi (k := 2) (N := 6) dX0_init_23 dX0_init_25 ft_RX0_18 rfl ha L2 (by omega) (by decide) rfl rfl (by decide) (by omega) (by omega) hz0 (fun X3 L3 => ?_)
  refine wp_aload_n 0 dX0_init_28 rfl rfl ?_
  refine wp_bipush (v := 6) dX0_init_29 rfl ?_
  refine wp_rowi (k := 3) (N := 6) dX0_init_31 dX0_init_33 ft_RX0_21 rfl ha L3 (by omega) (by decide) rfl rfl (by decide) (by omega) (by omega) hz0 (fun X4 L4 => ?_)
  refine wp_aload_n 0 dX0_init_36 rfl rfl ?_
  refine wp_bipush (v := 6) dX0_init_37 rfl ?_
  refine wp_rowi (k := 4) (N := 6) dX0_init_39 dX0_init_41 ft_RX0_24 rfl ha L4 (by omega) (by decide) rfl rfl (by decide) (by omega) (by omega) hz0 (fun X5 L5 => ?_)
  refine wp_aload_n 0 dX0_init_44 rfl rfl ?_
  refine wp_iconst (v := 0) dX0_init_45 rfl ?_
  refine wp_put0 dX0_init_46 fp_RX0_27 rfl ((L5.old a (by omega)).1.trans ha) (hs0 5 (by decide)) ?_
  refine wp_aload_n 0 dX0_init_49 rfl rfl ?_
  refine wp_iconst (v := 3) dX0_init_50 rfl ?_
  refine wp_rowi (k := 6) (N := 3) dX0_init_51 dX0_init_53 ft_RX0_31 rfl ha L5 (by omega) (by decide) rfl rfl (by decide) (by omega) (by omega) hz0 (fun X6 L6 => ?_)
  refine wp_aload_n 0 dX0_init_56 rfl rfl ?_
  refine wp_iconst (v := 0) dX0_init_57 rfl ?_
  refine wp_put0 dX0_init_58 fp_RX0_34 rfl ((L6.old a (by omega)).1.trans ha) (hs0 7 (by decide)) ?_
  exact wp_vret dX0_init_61 rfl rfl (Nat.le_refl _) ⟨rfl, rfl, L6⟩
theorem ft_RX3_9 : FLt RX3 9 3 0 true (tyX3 0) := ⟨by decide, by decide, RX3, TX3, tyX3, rfl, uw3, fw_RX3_9, rfl, rfl, tyX3_ok 0 (by decide), tyX3_ok, nmX3⟩
theorem ft_RX3_15 : FLt RX3 15 3 1 true (tyX3 1) := ⟨by decide, by decide, RX3, TX3, tyX3, rfl, uw3, fw_RX3_15, rfl, rfl, tyX3_ok 1 (by decide), tyX3_ok, nmX3⟩
theorem cl_X3_init (G : Gl) (d : Nat) (hd : 1 ≤ d) (X : Sh) (M : Mm) (a : Nat) (ha : xK X a = 3) (hx : xz X = a + 1) (hM : ∀ c j, a ≤ c → mI M c j = 0) : Cl G m_X3_init d 2 12 [.ref a] X M (fun X2 M2 v => v = none ∧ M2 = M ∧ Lay X X2 a [(0, 11, 6), (1, 11, 6)]) := by
  obtain ⟨d, rfl⟩ : ∃ d1, d = d1 + 1 := ⟨d - 1, by omega⟩
  have L0 := Lay.nil X a
  have hz0 : ∀ c j, xz X ≤ c → mI M c j = 0 := fun c j hc => hM c j (by omega)
  have hs0 : ∀ k, k ≠ 99 → mI M a k = 0 := fun k _ => hM a k (Nat.le_refl _)
  refine Cl.of (by decide) (Nat.le_of_ble_eq_true rfl) ?_
  refine wp_aload_n 0 dX3_init_0 rfl rfl ?_
  refine wp_objInit dX3_init_1 oi_RX3_3 oi_2 oi_3 (Nat.le_of_ble_eq_true rfl) ?_
  refine wp_aload_n 0 dX3_init_4 rfl rfl ?_
  refine wp_bipush (v := 6) dX3_init_5 rfl ?_
  refine wp_rowi (k := 0) (N := 6) dX3_init_7 dX3_init_9 ft_RX3_9 rfl ha L0 (by omega) (by decide) rfl rfl (by decide) (by omega) (by omega) hz0 (fun X1 L1 => ?_)
  refine wp_aload_n 0 dX3_init_12 rfl rfl ?_
  refine wp_bipush (v := 6) dX3_init_13 rfl ?_
  refine wp_rowi (k := 1) (N := 6) dX3_init_15 dX3_init_17 ft_RX3_15 rfl ha L1 (by omega) (by decide) rfl rfl (by decide) (by omega) (by omega) hz0 (fun X2 L2 => ?_)
  refine wp_aload_n 0 dX3_init_20 rfl rfl ?_
  refine wp_iconst (v := 0) dX3_init_21 rfl ?_
  refine wp_put0 dX3_init_22 fp_RX3_18 rfl ((L2.old a (by omega)).1.trans ha) (hs0 2 (by decide)) ?_
  refine wp_aload_n 0 dX3_init_25 rfl rfl ?_
  refine wp_iconst (v := 0) dX3_init_26 rfl ?_
  refine wp_put0 dX3_init_27 fp_RX3_22 rfl ((L2.old a (by omega)).1.trans ha) (hs0 3 (by decide)) ?_
  exact wp_vret dX3_init_30 rfl rfl (Nat.le_refl _) ⟨rfl, rfl, L2⟩
theorem ft_RX8_9 : FLt RX8 9 7 0 true (tyX8 0) := ⟨by decide, by decide, RX8, TX8, tyX8, rfl, uw7, fw_RX8_9, rfl, rfl, tyX8_ok 0 (by decide), tyX8_ok, nmX8⟩
theorem ft_RX8_19 : FLt RX8 19 7 9 true (tyX8 9) := ⟨by decide, by decide, RX8, TX8, tyX8, rfl, uw7, fw_RX8_19, rfl, rfl, tyX8_ok 9 (by decide), tyX8_ok, nmX8⟩
theorem ft_RX8_22 : FLt RX8 22 7 11 true (tyX8 11) := ⟨by decide, by decide, RX8, TX8, tyX8, rfl, uw7, fw_RX8_22, rfl, rfl, tyX8_ok 11 (by decide), tyX8_ok, nmX8⟩
theorem cl_X8_init (G : Gl) (d : Nat) (hd : 1 ≤ d) (X : Sh) (M : Mm) (a : Nat) (ha : xK X a = 7) (hx : xz X = a + 1) (hM : ∀ c j, a ≤ c → mI M c j = 0) : Cl G m_X8_init d 3 288 [.ref a] X M (fun X2 M2 v => v = none ∧ M2 = M ∧ Lay X X2 a [(0, 11, 96), (9, 11, 96), (11, 11, 96)]) := by
  obtain ⟨d, rfl⟩ : ∃ d1, d = d1 + 1 := ⟨d - 1, by omega⟩
  have L0 := Lay.nil X a
  have hz0 : ∀ c j, xz X ≤ c → mI M c j = 0 := fun c j hc => hM c j (by omega)
  have hs0 : ∀ k, k ≠ 99 → mI M a k = 0 := fun k _ => hM a k (Nat.le_refl _)
  refine Cl.of (by decide) (Nat.le_of_ble_eq_true rfl) ?_
  refine wp_aload_n 0 dX8_init_0 rfl rfl ?_
  refine wp_objInit dX8_init_1 oi_RX8_3 oi_2 oi_3 (Nat.le_of_ble_eq_true rfl) ?_
  refine wp_aload_n 0 dX8_init_4 rfl rfl ?_
  refine wp_bipush (v := 96) dX8_init_5 rfl ?_
  refine wp_rowi (k := 0) (N := 96) dX8_init_7 dX8_init_9 ft_RX8_9 rfl ha L0 (by omega) (by decide) rfl rfl (by decide) (by omega) (by omega) hz0 (fun X1 L1 => ?_)
  refine wp_aload_n 0 dX8_init_12 rfl rfl ?_
  refine wp_iconst (v := 0) dX8_init_13 rfl ?_
  refine wp_put0 dX8_init_14 fp_RX8_15 rfl ((L1.old a (by omega)).1.trans ha) (hs0 1 (by decide)) ?_
  refine wp_aload_n 0 dX8_init_17 rfl rfl ?_
  refine wp_bipush (v := 96) dX8_init_18 rfl ?_
  refine wp_rowi (k := 9) (N := 96) dX8_init_20 dX8_init_22 ft_RX8_19 rfl ha L1 (by omega) (by decide) rfl rfl (by decide) (by omega) (by omega) hz0 (fun X2 L2 => ?_)
  refine wp_aload_n 0 dX8_init_25 rfl rfl ?_
  refine wp_bipush (v := 96) dX8_init_26 rfl ?_
  refine wp_rowi (k := 11) (N := 96) dX8_init_28 dX8_init_30 ft_RX8_22 rfl ha L2 (by omega) (by decide) rfl rfl (by decide) (by omega) (by omega) hz0 (fun X3 L3 => ?_)
  exact wp_vret dX8_init_33 rfl rfl (Nat.le_refl _) ⟨rfl, rfl, L3⟩
theorem ft_RX5_18 : FLt RX5 18 5 2 true (tyX5 2) := ⟨by decide, by decide, RX5, TX5, tyX5, rfl, uw5, fw_RX5_18, rfl, rfl, tyX5_ok 2 (by decide), tyX5_ok, nmX5⟩
theorem ft_RX5_22 : FLt RX5 22 5 3 true (tyX5 3) := ⟨by decide, by decide, RX5, TX5, tyX5, rfl, uw5, fw_RX5_22, rfl, rfl, tyX5_ok 3 (by decide), tyX5_ok, nmX5⟩
theorem cl_X5_init (G : Gl) (d : Nat) (hd : 1 ≤ d) (X : Sh) (M : Mm) (a : Nat) (ha : xK X a = 5) (hx : xz X = a + 1) (hM : ∀ c j, a ≤ c → mI M c j = 0) : Cl G m_X5_init d 2 48 [.ref a] X M (fun X2 M2 v => v = none ∧ M2 = sI M a 0 (-1) ∧ Lay X X2 a [(2, 11, 24), (3, 13, 24)]) := by
  obtain ⟨d, rfl⟩ : ∃ d1, d = d1 + 1 := ⟨d - 1, by omega⟩
  have L0 := Lay.nil X a
  have hz0 : ∀ c j, xz X ≤ c → mI M c j = 0 := fun c j hc => hM c j (by omega)
  have hs0 : ∀ k, k ≠ 99 → mI M a k = 0 := fun k _ => hM a k (Nat.le_refl _)
  refine Cl.of (by decide) (Nat.le_of_ble_eq_true rfl) ?_
  refine wp_aload_n 0 dX5_init_0 rfl rfl ?_
  refine wp_objInit dX5_init_1 oi_RX5_3 oi_2 oi_3 (Nat.le_of_ble_eq_true rfl) ?_
  refine wp_aload_n 0 dX5_init_4 rfl rfl ?_
  refine wp_iconst (v := (-1)) dX5_init_5 rfl ?_
  refine wp_putI dX5_init_6 fp_RX5_9 rfl ((L0.old a (by omega)).1.trans ha) ?_
  have hz1 : ∀ c j, xz X ≤ c → mI (sI M a 0 (-1)) c j = 0 := fun c j hc => by rw [mI_sI, up2_off _ _ _ (by omega)]; exact hz0 c j hc
  have hs1 : ∀ k, k ≠ 0 → mI (sI M a 0 (-1)) a k = 0 := fun k hk => by rw [mI_sI, up2_k _ _ _ hk]; exact hM a k (Nat.le_refl _)
  refine wp_aload_n 0 dX5_init_9 rfl rfl ?_
  refine wp_iconst (v := 0) dX5_init_10 rfl ?_
  refine wp_put0 dX5_init_11 fp_RX5_15 rfl ((L0.old a (by omega)).1.trans ha) (hs1 1 (by decide)) ?_
  refine wp_aload_n 0 dX5_init_14 rfl rfl ?_
  refine wp_bipush (v := 24) dX5_init_15 rfl ?_
  refine wp_rowi (k := 2) (N := 24) dX5_init_17 dX5_init_19 ft_RX5_18 rfl ha L0 (by omega) (by decide) rfl rfl (by decide) (by omega) (by omega) hz1 (fun X1 L1 => ?_)
  refine wp_aload_n 0 dX5_init_22 rfl rfl ?_
  refine wp_bipush (v := 24) dX5_init_23 rfl ?_
  refine wp_rowz (k := 3) (N := 24) dX5_init_25 dX5_init_27 ft_RX5_22 rfl ha L1 (by omega) (by decide) rfl rfl (by decide) (by omega) (by omega) hz1 (fun X2 L2 => ?_)
  exact wp_vret dX5_init_30 rfl rfl (Nat.le_refl _) ⟨rfl, rfl, L2⟩
theorem ft_RX4_9 : FLt RX4 9 4 9 true (tyX4 9) := ⟨by decide, by decide, RX4, TX4, tyX4, rfl, uw4, fw_RX4_9, rfl, rfl, tyX4_ok 9 (by decide), tyX4_ok, nmX4⟩
theorem cl_X4_init (G : Gl) (d : Nat) (hd : 1 ≤ d) (X : Sh) (M : Mm) (a : Nat) (ha : xK X a = 4) (hx : xz X = a + 1) (hM : ∀ c j, a ≤ c → mI M c j = 0) : Cl G m_X4_init d 1 5 [.ref a] X M (fun X2 M2 v => v = none ∧ M2 = M ∧ Lay X X2 a [(9, 11, 5)]) := by
  obtain ⟨d, rfl⟩ : ∃ d1, d = d1 + 1 := ⟨d - 1, by omega⟩
  have L0 := Lay.nil X a
  have hz0 : ∀ c j, xz X ≤ c → mI M c j = 0 := fun c j hc => hM c j (by omega)
  have hs0 : ∀ k, k ≠ 99 → mI M a k = 0 := fun k _ => hM a k (Nat.le_refl _)
  refine Cl.of (by decide) (Nat.le_of_ble_eq_true rfl) ?_
  refine wp_aload_n 0 dX4_init_0 rfl rfl ?_
  refine wp_objInit dX4_init_1 oi_RX4_3 oi_2 oi_3 (Nat.le_of_ble_eq_true rfl) ?_
  refine wp_aload_n 0 dX4_init_4 rfl rfl ?_
  refine wp_iconst (v := 5) dX4_init_5 rfl ?_
  refine wp_rowi (k := 9) (N := 5) dX4_init_6 dX4_init_8 ft_RX4_9 rfl ha L0 (by omega) (by decide) rfl rfl (by decide) (by omega) (by omega) hz0 (fun X1 L1 => ?_)
  exact wp_vret dX4_init_11 rfl rfl (Nat.le_refl _) ⟨rfl, rfl, L1⟩
