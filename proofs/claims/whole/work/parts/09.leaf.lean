/-! the leaf methods: each answers a word of its arguments (of its object's ints), and writes nothing -/
theorem bX10_isWithin_0 {G : Gl} {d : Nat} {X : Sh} {M : Mm} {Q : Mm → Int32 → Prop} {x0 : Int32} {x1 : Int32} {x2 : Int32}  (h : Q M (if ((¬ (x0 < x1)) ∧ (¬ (x2 < x0))) then 1 else 0)) : Wn G m_X10_isWithin d 0 [(0, .int x0), (1, .int x1), (2, .int x2)] [] X M Q := by
  refine wp_iload_n 0 dX10_isWithin_0 rfl rfl ?_
  refine wp_iload_n 1 dX10_isWithin_1 rfl rfl ?_
  have K3 : Wp G m_X10_isWithin d 0 0 0 0 15 [(0, .int x0), (1, .int x1), (2, .int x2)] [.int (if ((¬ (x0 < x1)) ∧ (¬ (x2 < x0))) then 1 else 0)] X M (fun X2 M2 v => X2 = X ∧ ∃ x, v = some (.int x) ∧ Q M2 x) := by
    exact wn_zret dX10_isWithin_15 rfl (ite_01 _) h
  refine wp_icmp_lt (tgt := 14) dX10_isWithin_2 (by decide) (fun c1 => ?_) (fun c1 => ?_)
  · refine wp_iconst (v := 0) dX10_isWithin_14 rfl ?_
    rw [if_neg (fun q => (fun q => q c1) q.1)] at K3
    exact K3
  · refine wp_iload_n 0 dX10_isWithin_5 rfl rfl ?_
    refine wp_iload_n 2 dX10_isWithin_6 rfl rfl ?_
    refine wp_icmp_gt (tgt := 14) dX10_isWithin_7 (by decide) (fun c2 => ?_) (fun c2 => ?_)
    · refine wp_iconst (v := 0) dX10_isWithin_14 rfl ?_
      rw [if_neg (fun q => (fun q => q c2) q.2)] at K3
      exact K3
    · refine wp_iconst (v := 1) dX10_isWithin_10 rfl ?_
      refine wp_goto (tgt := 15) dX10_isWithin_11 (by decide) ?_
      rw [if_pos ⟨c1, c2⟩] at K3
      exact K3
theorem cp_X10_isWithin (G : Gl) (d : Nat) (X : Sh) (M : Mm) (v lo hi : Int32) : Cn G m_X10_isWithin d [.int v, .int lo, .int hi] X M (fun M2 x => M2 = M ∧ x = (if lo ≤ v ∧ v ≤ hi then 1 else 0)) := by
  refine Cn.of (by decide) (Nat.le_of_ble_eq_true rfl) ?_
  exact bX10_isWithin_0 ⟨rfl, ite_b (and_congr i_nlt i_nlt)⟩
theorem bX10_isKind_0 {G : Gl} {d : Nat} {X : Sh} {M : Mm} {Q : Mm → Int32 → Prop} {x0 : Int32}  (h : Q M (if 0 ≤ x0 ∧ x0 ≤ 5 then 1 else 0)) : Wn G m_X10_isKind (d + 1) 0 [(0, .int x0)] [] X M Q := by
  refine wp_iload_n 0 dX10_isKind_0 rfl rfl ?_
  refine wp_iconst (v := 0) dX10_isKind_1 rfl ?_
  refine wp_iconst (v := 5) dX10_isKind_2 rfl ?_
  refine wp_csip dX10_isKind_3 ck_RX10_63 rfl (as := [.int x0, .int 0, .int 5]) rfl rfl (Nat.le_of_ble_eq_true rfl) (cp_X10_isWithin G d X M x0 0 5) ?_
  exact wn_zret dX10_isKind_6 rfl (ite_01 _) h
theorem cp_X10_isKind (G : Gl) (d : Nat) (hd : 1 ≤ d) (X : Sh) (M : Mm) (v : Int32) : Cn G m_X10_isKind d [.int v] X M (fun M2 x => M2 = M ∧ x = (if 0 ≤ v ∧ v ≤ 5 then 1 else 0)) := by
  obtain ⟨d, rfl⟩ : ∃ d1, d = d1 + 1 := ⟨d - 1, by omega⟩
  refine Cn.of (by decide) (Nat.le_of_ble_eq_true rfl) ?_
  exact bX10_isKind_0 ⟨rfl, rfl⟩
theorem bX10_isSheet_0 {G : Gl} {d : Nat} {X : Sh} {M : Mm} {Q : Mm → Int32 → Prop} {x0 : Int32}  (h : Q M (if 0 ≤ x0 ∧ x0 ≤ 3 then 1 else 0)) : Wn G m_X10_isSheet (d + 1) 0 [(0, .int x0)] [] X M Q := by
  refine wp_iload_n 0 dX10_isSheet_0 rfl rfl ?_
  refine wp_iconst (v := 0) dX10_isSheet_1 rfl ?_
  refine wp_iconst (v := 3) dX10_isSheet_2 rfl ?_
  refine wp_csip dX10_isSheet_3 ck_RX10_63 rfl (as := [.int x0, .int 0, .int 3]) rfl rfl (Nat.le_of_ble_eq_true rfl) (cp_X10_isWithin G d X M x0 0 3) ?_
  exact wn_zret dX10_isSheet_6 rfl (ite_01 _) h
theorem cp_X10_isSheet (G : Gl) (d : Nat) (hd : 1 ≤ d) (X : Sh) (M : Mm) (v : Int32) : Cn G m_X10_isSheet d [.int v] X M (fun M2 x => M2 = M ∧ x = (if 0 ≤ v ∧ v ≤ 3 then 1 else 0)) := by
  obtain ⟨d, rfl⟩ : ∃ d1, d = d1 + 1 := ⟨d - 1, by omega⟩
  refine Cn.of (by decide) (Nat.le_of_ble_eq_true rfl) ?_
  exact bX10_isSheet_0 ⟨rfl, rfl⟩
theorem bX10_isSlot_0 {G : Gl} {d : Nat} {X : Sh} {M : Mm} {Q : Mm → Int32 → Prop} {x0 : Int32}  (h : Q M (if 0 ≤ x0 ∧ x0 ≤ 4 then 1 else 0)) : Wn G m_X10_isSlot (d + 1) 0 [(0, .int x0)] [] X M Q := by
  refine wp_iload_n 0 dX10_isSlot_0 rfl rfl ?_
  refine wp_iconst (v := 0) dX10_isSlot_1 rfl ?_
  refine wp_iconst (v := 4) dX10_isSlot_2 rfl ?_
  refine wp_csip dX10_isSlot_3 ck_RX10_63 rfl (as := [.int x0, .int 0, .int 4]) rfl rfl (Nat.le_of_ble_eq_true rfl) (cp_X10_isWithin G d X M x0 0 4) ?_
  exact wn_zret dX10_isSlot_6 rfl (ite_01 _) h
theorem cp_X10_isSlot (G : Gl) (d : Nat) (hd : 1 ≤ d) (X : Sh) (M : Mm) (v : Int32) : Cn G m_X10_isSlot d [.int v] X M (fun M2 x => M2 = M ∧ x = (if 0 ≤ v ∧ v ≤ 4 then 1 else 0)) := by
  obtain ⟨d, rfl⟩ : ∃ d1, d = d1 + 1 := ⟨d - 1, by omega⟩
  refine Cn.of (by decide) (Nat.le_of_ble_eq_true rfl) ?_
  exact bX10_isSlot_0 ⟨rfl, rfl⟩
theorem bX10_heldWithin999_0 {G : Gl} {d : Nat} {X : Sh} {M : Mm} {Q : Mm → Int32 → Prop} {x0 : Int32}  (h : Q M (if 0 < (if x0 < 999 then x0 else 999) then (if x0 < 999 then x0 else 999) else 0)) : Wn G m_X10_heldWithin999 (d + 1) 0 [(0, .int x0)] [] X M Q := by
  refine wp_iconst (v := 0) dX10_heldWithin999_0 rfl ?_
  refine wp_sipush (v := 999) dX10_heldWithin999_1 rfl ?_
  refine wp_iload_n 0 dX10_heldWithin999_4 rfl rfl ?_
  refine wp_mmin dX10_heldWithin999_5 ml_RX10_262 ms_min mi_Math mc_min (Nat.le_of_ble_eq_true rfl) (Nat.le_refl _) (Nat.le_refl _) ?_
  refine wp_mmax dX10_heldWithin999_8 ml_RX10_347 ms_max mi_Math mc_max (Nat.le_of_ble_eq_true rfl) (Nat.le_refl _) (Nat.le_refl _) ?_
  exact wn_iret dX10_heldWithin999_11 rfl h
theorem cp_X10_heldWithin999 (G : Gl) (d : Nat) (hd : 1 ≤ d) (X : Sh) (M : Mm) (v : Int32) : Cn G m_X10_heldWithin999 d [.int v] X M (fun M2 x => M2 = M ∧ x = f_held v) := by
  obtain ⟨d, rfl⟩ : ∃ d1, d = d1 + 1 := ⟨d - 1, by omega⟩
  refine Cn.of (by decide) (Nat.le_of_ble_eq_true rfl) ?_
  refine bX10_heldWithin999_0 ⟨rfl, ?_⟩
  unfold f_held
  by_cases h1 : v < 0
  · have h2 : v < 999 := Int32.lt_of_lt_of_le h1 (by decide)
    rw [if_pos h2, if_pos h1, if_neg (i_nlt.mpr (Int32.le_of_lt h1))]
  · rw [if_neg h1]
    by_cases h2 : 999 < v
    · rw [if_pos h2, if_neg (i_nlt.mpr (Int32.le_of_lt h2)), if_pos (by decide)]
    · rw [if_neg h2]
      by_cases h3 : v < 999
      · rw [if_pos h3]
        by_cases h4 : 0 < v
        · rw [if_pos h4]
        · rw [if_neg h4]
          exact Int32.le_antisymm (i_nlt.mp h1) (i_nlt.mp h4)
      · rw [if_neg h3, if_pos (by decide)]
        exact Int32.le_antisymm (i_nlt.mp h3) (i_nlt.mp h2)
theorem bX10_basicOf_0 {G : Gl} {d : Nat} {X : Sh} {M : Mm} {Q : Mm → Int32 → Prop} {x0 : Int32} {x1 : Int32}  (h : ((¬ (x1 = 0) → (¬ (x1.toInt64 = 0) ∧ Q M (((100 * x0.toInt64) / x1.toInt64).toInt32))) ∧ (x1 = 0 → Q M 0))) : Wn G m_X10_basicOf d 0 [(0, .int x0), (1, .int x1)] [] X M Q := by
  refine wp_iload_n 1 dX10_basicOf_0 rfl rfl ?_
  refine wp_if_ne (tgt := 8) dX10_basicOf_1 (by decide) (fun c1 => ?_) (fun c1 => ?_)
  · replace h := h.1 c1
    refine wp_ldc2 dX10_basicOf_8 kc_RX10_350 ?_
    refine wp_iload_n 0 dX10_basicOf_11 rfl rfl ?_
    refine wp_i2l dX10_basicOf_12 ?_
    refine wp_lmul dX10_basicOf_13 ?_
    refine wp_iload_n 1 dX10_basicOf_14 rfl rfl ?_
    refine wp_i2l dX10_basicOf_15 ?_
    obtain ⟨o2, h⟩ := h
    refine wp_ldiv dX10_basicOf_16 o2 ?_
    refine wp_l2i dX10_basicOf_17 ?_
    exact wn_iret dX10_basicOf_18 rfl h
  · replace h := h.2 c1
    refine wp_iconst (v := 0) dX10_basicOf_4 rfl ?_
    refine wp_goto (tgt := 18) dX10_basicOf_5 (by decide) ?_
    exact wn_iret dX10_basicOf_18 rfl h
theorem cp_X10_basicOf (G : Gl) (d : Nat) (X : Sh) (M : Mm) (lime acid : Int32) : Cn G m_X10_basicOf d [.int lime, .int acid] X M (fun M2 x => M2 = M ∧ x = f_basic lime acid) := by
  refine Cn.of (by decide) (Nat.le_of_ble_eq_true rfl) ?_
  refine bX10_basicOf_0 ⟨fun h => ⟨lw_ne0 h, rfl, ?_⟩, fun h => ⟨rfl, ?_⟩⟩
  · unfold f_basic
    rw [if_neg h]
  · unfold f_basic
    rw [if_pos h]
theorem bX7_bulkOf_0 {G : Gl} {d : Nat} {X : Sh} {M : Mm} {Q : Mm → Int32 → Prop} {x0 : Int32} {x1 : Int32}  (h : ((x0 = 1 → Q M (x1 - (x1 / 4))) ∧ (x0 = 2 → Q M (2 * x1)) ∧ (x0 = 3 → Q M (x1 - (x1 / 4))) ∧ (x0 ≠ 1 → x0 ≠ 2 → x0 ≠ 3 → Q M x1))) : Wn G m_X7_bulkOf d 0 [(0, .int x0), (1, .int x1)] [] X M Q := by
  refine wp_iload_n 0 dX7_bulkOf_0 rfl rfl ?_
  by_cases c1 : x0 = 1
  · replace h := h.1 c1
    refine wp_tblIn (tgt := 28) (off := 27) dX7_bulkOf_1 (by rw [c1]; decide) (by rw [c1]; decide) (by rw [c1]; rfl) (by decide) ?_
    refine wp_iload_n 1 dX7_bulkOf_28 rfl rfl ?_
    refine wp_iload_n 1 dX7_bulkOf_29 rfl rfl ?_
    refine wp_iconst (v := 4) dX7_bulkOf_30 rfl ?_
    refine wp_idiv dX7_bulkOf_31 (by decide) ?_
    refine wp_isub dX7_bulkOf_32 ?_
    exact wn_iret dX7_bulkOf_33 rfl h
  by_cases c2 : x0 = 2
  · replace h := h.2.1 c2
    refine wp_tblIn (tgt := 34) (off := 33) dX7_bulkOf_1 (by rw [c2]; decide) (by rw [c2]; decide) (by rw [c2]; rfl) (by decide) ?_
    refine wp_iconst (v := 2) dX7_bulkOf_34 rfl ?_
    refine wp_iload_n 1 dX7_bulkOf_35 rfl rfl ?_
    refine wp_imul dX7_bulkOf_36 ?_
    exact wn_iret dX7_bulkOf_37 rfl h
  by_cases c3 : x0 = 3
  · replace h := h.2.2.1 c3
    refine wp_tblIn (tgt := 28) (off := 27) dX7_bulkOf_1 (by rw [c3]; decide) (by rw [c3]; decide) (by rw [c3]; rfl) (by decide) ?_
    refine wp_iload_n 1 dX7_bulkOf_28 rfl rfl ?_
    refine wp_iload_n 1 dX7_bulkOf_29 rfl rfl ?_
    refine wp_iconst (v := 4) dX7_bulkOf_30 rfl ?_
    refine wp_idiv dX7_bulkOf_31 (by decide) ?_
    refine wp_isub dX7_bulkOf_32 ?_
    exact wn_iret dX7_bulkOf_33 rfl h
  replace h := h.2.2.2 c1 c2 c3
  have ec1 := ne_ti (z := 1) c1 rfl
  have ec2 := ne_ti (z := 2) c2 rfl
  have ec3 := ne_ti (z := 3) c3 rfl
  refine wp_tblOut (tgt := 38) dX7_bulkOf_1 (by omega) (by decide) ?_
  refine wp_iload_n 1 dX7_bulkOf_38 rfl rfl ?_
  exact wn_iret dX7_bulkOf_39 rfl h
theorem cp_X7_bulkOf (G : Gl) (d : Nat) (X : Sh) (M : Mm) (k t : Int32) : Cn G m_X7_bulkOf d [.int k, .int t] X M (fun M2 x => M2 = M ∧ x = f_bulk k t) := by
  refine Cn.of (by decide) (Nat.le_of_ble_eq_true rfl) ?_
  refine bX7_bulkOf_0 ⟨fun h => ⟨rfl, ?_⟩, fun h => ⟨rfl, ?_⟩, fun h => ⟨rfl, ?_⟩, fun h1 h2 h3 => ⟨rfl, ?_⟩⟩
  · simp [f_bulk, h]
  · simp [f_bulk, h]
  · simp [f_bulk, h]
  · simp [f_bulk, h1, h2, h3]
theorem bX7_ironOf_0 {G : Gl} {d : Nat} {X : Sh} {M : Mm} {Q : Mm → Int32 → Prop} {x0 : Int32} {x1 : Int32} {x2 : Int32}  (h : ((x0 = 1 → Q M ((x2 * x1) / 100)) ∧ (x0 = 3 → (((x2 / 20) ≤ ((x2 * x1) / 100) → Q M (((x2 * x1) / 100) - (x2 / 20))) ∧ (¬ ((x2 / 20) ≤ ((x2 * x1) / 100)) → Q M 0))) ∧ (x0 ≠ 1 → x0 ≠ 3 → Q M 0))) : Wn G m_X7_ironOf d 0 [(0, .int x0), (1, .int x1), (2, .int x2)] [] X M Q := by
  refine wp_iload_n 0 dX7_ironOf_0 rfl rfl ?_
  by_cases c1 : x0 = 1
  · replace h := h.1 c1
    refine wp_lkup (tgt := 28) (off := 27) dX7_ironOf_1 (by decide) (by rw [c1]; decide) (by decide) ?_
    refine wp_iload_n 2 dX7_ironOf_28 rfl rfl ?_
    refine wp_iload_n 1 dX7_ironOf_29 rfl rfl ?_
    refine wp_imul dX7_ironOf_30 ?_
    refine wp_bipush (v := 100) dX7_ironOf_31 rfl ?_
    refine wp_idiv dX7_ironOf_33 (by decide) ?_
    exact wn_iret dX7_ironOf_34 rfl h
  by_cases c2 : x0 = 3
  · replace h := h.2.1 c2
    refine wp_lkup (tgt := 35) (off := 34) dX7_ironOf_1 (by decide) (by rw [c2]; decide) (by decide) ?_
    refine wp_iload_n 2 dX7_ironOf_35 rfl rfl ?_
    refine wp_iload_n 1 dX7_ironOf_36 rfl rfl ?_
    refine wp_imul dX7_ironOf_37 ?_
    refine wp_bipush (v := 100) dX7_ironOf_38 rfl ?_
    refine wp_idiv dX7_ironOf_40 (by decide) ?_
    refine wp_iload_n 2 dX7_ironOf_41 rfl rfl ?_
    refine wp_bipush (v := 20) dX7_ironOf_42 rfl ?_
    refine wp_idiv dX7_ironOf_44 (by decide) ?_
    refine wp_icmp_ge (tgt := 52) dX7_ironOf_45 (by decide) (fun c3 => ?_) (fun c3 => ?_)
    · replace h := h.1 c3
      refine wp_iload_n 2 dX7_ironOf_52 rfl rfl ?_
      refine wp_iload_n 1 dX7_ironOf_53 rfl rfl ?_
      refine wp_imul dX7_ironOf_54 ?_
      refine wp_bipush (v := 100) dX7_ironOf_55 rfl ?_
      refine wp_idiv dX7_ironOf_57 (by decide) ?_
      refine wp_iload_n 2 dX7_ironOf_58 rfl rfl ?_
      refine wp_bipush (v := 20) dX7_ironOf_59 rfl ?_
      refine wp_idiv dX7_ironOf_61 (by decide) ?_
      refine wp_isub dX7_ironOf_62 ?_
      exact wn_iret dX7_ironOf_63 rfl h
    · replace h := h.2 c3
      refine wp_iconst (v := 0) dX7_ironOf_48 rfl ?_
      refine wp_goto (tgt := 63) dX7_ironOf_49 (by decide) ?_
      exact wn_iret dX7_ironOf_63 rfl h
  replace h := h.2.2 c1 c2
  have ec1 := ne_ti (z := 1) c1 rfl
  have ec2 := ne_ti (z := 3) c2 rfl
  refine wp_lkup (tgt := 64) (off := 63) dX7_ironOf_1 (by decide) (by simp [Op.lookupswitch.offset, Ne.symm ec1, ec1, Ne.symm ec2, ec2]) (by decide) ?_
  refine wp_iconst (v := 0) dX7_ironOf_64 rfl ?_
  exact wn_iret dX7_ironOf_65 rfl h
theorem cp_X7_ironOf (G : Gl) (d : Nat) (X : Sh) (M : Mm) (k sh t : Int32) : Cn G m_X7_ironOf d [.int k, .int sh, .int t] X M (fun M2 x => M2 = M ∧ x = f_iron k sh t) := by
  refine Cn.of (by decide) (Nat.le_of_ble_eq_true rfl) ?_
  refine bX7_ironOf_0 ⟨fun h => ⟨rfl, ?_⟩, fun h => ⟨fun h2 => ⟨rfl, ?_⟩, fun h2 => ⟨rfl, ?_⟩⟩, fun h1 h2 => ⟨rfl, ?_⟩⟩
  · simp [f_iron, h]
  · simp [f_iron, h, h2]
  · simp [f_iron, h, h2]
  · simp [f_iron, h1, h2]
theorem bX7_acidOf_0 {G : Gl} {d : Nat} {X : Sh} {M : Mm} {Q : Mm → Int32 → Prop} {x0 : Int32} {x1 : Int32} {x2 : Int32}  (h : ((x0 = 1 → Q M ((x2 / 10) + ((x2 - (f_iron x0 x1 x2)) / 4))) ∧ (x0 = 3 → Q M ((x2 / 10) + ((x2 - (f_iron x0 x1 x2)) / 4))) ∧ (x0 = 5 → Q M 0) ∧ (x0 ≠ 1 → x0 ≠ 3 → x0 ≠ 5 → Q M (x2 / 10)))) : Wn G m_X7_acidOf (d + 1) 0 [(0, .int x0), (1, .int x1), (2, .int x2)] [] X M Q := by
  refine wp_iload_n 0 dX7_acidOf_0 rfl rfl ?_
  by_cases c1 : x0 = 1
  · replace h := h.1 c1
    refine wp_tblIn (tgt := 36) (off := 35) dX7_acidOf_1 (by rw [c1]; decide) (by rw [c1]; decide) (by rw [c1]; rfl) (by decide) ?_
    refine wp_iload_n 2 dX7_acidOf_36 rfl rfl ?_
    refine wp_bipush (v := 10) dX7_acidOf_37 rfl ?_
    refine wp_idiv dX7_acidOf_39 (by decide) ?_
    refine wp_iload_n 2 dX7_acidOf_40 rfl rfl ?_
    refine wp_iload_n 0 dX7_acidOf_41 rfl rfl ?_
    refine wp_iload_n 1 dX7_acidOf_42 rfl rfl ?_
    refine wp_iload_n 2 dX7_acidOf_43 rfl rfl ?_
    refine wp_csip dX7_acidOf_44 ck_RX7_19 rfl (as := [.int x0, .int x1, .int x2]) rfl rfl (Nat.le_of_ble_eq_true rfl) (cp_X7_ironOf G d X M x0 x1 x2) ?_
    refine wp_isub dX7_acidOf_47 ?_
    refine wp_iconst (v := 4) dX7_acidOf_48 rfl ?_
    refine wp_idiv dX7_acidOf_49 (by decide) ?_
    refine wp_iadd dX7_acidOf_50 ?_
    exact wn_iret dX7_acidOf_51 rfl h
  by_cases c2 : x0 = 3
  · replace h := h.2.1 c2
    refine wp_tblIn (tgt := 36) (off := 35) dX7_acidOf_1 (by rw [c2]; decide) (by rw [c2]; decide) (by rw [c2]; rfl) (by decide) ?_
    refine wp_iload_n 2 dX7_acidOf_36 rfl rfl ?_
    refine wp_bipush (v := 10) dX7_acidOf_37 rfl ?_
    refine wp_idiv dX7_acidOf_39 (by decide) ?_
    refine wp_iload_n 2 dX7_acidOf_40 rfl rfl ?_
    refine wp_iload_n 0 dX7_acidOf_41 rfl rfl ?_
    refine wp_iload_n 1 dX7_acidOf_42 rfl rfl ?_
    refine wp_iload_n 2 dX7_acidOf_43 rfl rfl ?_
    refine wp_csip dX7_acidOf_44 ck_RX7_19 rfl (as := [.int x0, .int x1, .int x2]) rfl rfl (Nat.le_of_ble_eq_true rfl) (cp_X7_ironOf G d X M x0 x1 x2) ?_
    refine wp_isub dX7_acidOf_47 ?_
    refine wp_iconst (v := 4) dX7_acidOf_48 rfl ?_
    refine wp_idiv dX7_acidOf_49 (by decide) ?_
    refine wp_iadd dX7_acidOf_50 ?_
    exact wn_iret dX7_acidOf_51 rfl h
  by_cases c3 : x0 = 5
  · replace h := h.2.2.1 c3
    refine wp_tblIn (tgt := 52) (off := 51) dX7_acidOf_1 (by rw [c3]; decide) (by rw [c3]; decide) (by rw [c3]; rfl) (by decide) ?_
    refine wp_iconst (v := 0) dX7_acidOf_52 rfl ?_
    exact wn_iret dX7_acidOf_53 rfl h
  replace h := h.2.2.2 c1 c2 c3
  have ec1 := ne_ti (z := 1) c1 rfl
  have ec2 := ne_ti (z := 3) c2 rfl
  have ec3 := ne_ti (z := 5) c3 rfl
  refine tbl_def (tgt := 54) dX7_acidOf_1 [1, 3, 5] 5 (by decide) (by decide) (by decide) (List.forall_mem_cons.mpr ⟨ec1, List.forall_mem_cons.mpr ⟨ec2, List.forall_mem_cons.mpr ⟨ec3, fun _ h => absurd h List.not_mem_nil⟩⟩⟩) ?_
  refine wp_iload_n 2 dX7_acidOf_54 rfl rfl ?_
  refine wp_bipush (v := 10) dX7_acidOf_55 rfl ?_
  refine wp_idiv dX7_acidOf_57 (by decide) ?_
  exact wn_iret dX7_acidOf_58 rfl h
theorem cp_X7_acidOf (G : Gl) (d : Nat) (hd : 1 ≤ d) (X : Sh) (M : Mm) (k sh t : Int32) : Cn G m_X7_acidOf d [.int k, .int sh, .int t] X M (fun M2 x => M2 = M ∧ x = f_acid k sh t) := by
  obtain ⟨d, rfl⟩ : ∃ d1, d = d1 + 1 := ⟨d - 1, by omega⟩
  refine Cn.of (by decide) (Nat.le_of_ble_eq_true rfl) ?_
  refine bX7_acidOf_0 ⟨fun h => ⟨rfl, ?_⟩, fun h => ⟨rfl, ?_⟩, fun h => ⟨rfl, ?_⟩, fun h1 h2 h3 => ⟨rfl, ?_⟩⟩
  · simp [f_acid, h]
  · simp [f_acid, h]
  · simp [f_acid, h]
  · simp [f_acid, h1, h2, h3]
theorem bX7_limeOf_0 {G : Gl} {d : Nat} {X : Sh} {M : Mm} {Q : Mm → Int32 → Prop} {x0 : Int32} {x1 : Int32} {x2 : Int32}  (h : ((x0 = 3 → Q M (x2 / 8)) ∧ (x0 = 5 → Q M ((x2 * x1) / 100)) ∧ (x0 ≠ 3 → x0 ≠ 5 → Q M 0))) : Wn G m_X7_limeOf d 0 [(0, .int x0), (1, .int x1), (2, .int x2)] [] X M Q := by
  refine wp_iload_n 0 dX7_limeOf_0 rfl rfl ?_
  by_cases c1 : x0 = 3
  · replace h := h.1 c1
    refine wp_lkup (tgt := 28) (off := 27) dX7_limeOf_1 (by decide) (by rw [c1]; decide) (by decide) ?_
    refine wp_iload_n 2 dX7_limeOf_28 rfl rfl ?_
    refine wp_bipush (v := 8) dX7_limeOf_29 rfl ?_
    refine wp_idiv dX7_limeOf_31 (by decide) ?_
    exact wn_iret dX7_limeOf_32 rfl h
  by_cases c2 : x0 = 5
  · replace h := h.2.1 c2
    refine wp_lkup (tgt := 33) (off := 32) dX7_limeOf_1 (by decide) (by rw [c2]; decide) (by decide) ?_
    refine wp_iload_n 2 dX7_limeOf_33 rfl rfl ?_
    refine wp_iload_n 1 dX7_limeOf_34 rfl rfl ?_
    refine wp_imul dX7_limeOf_35 ?_
    refine wp_bipush (v := 100) dX7_limeOf_36 rfl ?_
    refine wp_idiv dX7_limeOf_38 (by decide) ?_
    exact wn_iret dX7_limeOf_39 rfl h
  replace h := h.2.2 c1 c2
  have ec1 := ne_ti (z := 3) c1 rfl
  have ec2 := ne_ti (z := 5) c2 rfl
  refine wp_lkup (tgt := 40) (off := 39) dX7_limeOf_1 (by decide) (by simp [Op.lookupswitch.offset, Ne.symm ec1, ec1, Ne.symm ec2, ec2]) (by decide) ?_
  refine wp_iconst (v := 0) dX7_limeOf_40 rfl ?_
  exact wn_iret dX7_limeOf_41 rfl h
theorem cp_X7_limeOf (G : Gl) (d : Nat) (X : Sh) (M : Mm) (k sh t : Int32) : Cn G m_X7_limeOf d [.int k, .int sh, .int t] X M (fun M2 x => M2 = M ∧ x = f_lime k sh t) := by
  refine Cn.of (by decide) (Nat.le_of_ble_eq_true rfl) ?_
  refine bX7_limeOf_0 ⟨fun h => ⟨rfl, ?_⟩, fun h => ⟨rfl, ?_⟩, fun h1 h2 => ⟨rfl, ?_⟩⟩
  · simp [f_lime, h]
  · simp [f_lime, h]
  · simp [f_lime, h1, h2]
theorem bX7_holdsOf_0 {G : Gl} {d : Nat} {X : Sh} {M : Mm} {Q : Mm → Int32 → Prop} {x0 : Int32}  (h : ((x0 = 1 → Q M 3) ∧ (x0 = 2 → Q M 1) ∧ (x0 = 3 → Q M 1) ∧ (x0 = 4 → Q M 5) ∧ (x0 ≠ 1 → x0 ≠ 2 → x0 ≠ 3 → x0 ≠ 4 → Q M 2))) : Wn G m_X7_holdsOf d 0 [(0, .int x0)] [] X M Q := by
  refine wp_iload_n 0 dX7_holdsOf_0 rfl rfl ?_
  by_cases c1 : x0 = 1
  · replace h := h.1 c1
    refine wp_tblIn (tgt := 32) (off := 31) dX7_holdsOf_1 (by rw [c1]; decide) (by rw [c1]; decide) (by rw [c1]; rfl) (by decide) ?_
    refine wp_iconst (v := 3) dX7_holdsOf_32 rfl ?_
    exact wn_iret dX7_holdsOf_33 rfl h
  by_cases c2 : x0 = 2
  · replace h := h.2.1 c2
    refine wp_tblIn (tgt := 34) (off := 33) dX7_holdsOf_1 (by rw [c2]; decide) (by rw [c2]; decide) (by rw [c2]; rfl) (by decide) ?_
    refine wp_iconst (v := 1) dX7_holdsOf_34 rfl ?_
    exact wn_iret dX7_holdsOf_35 rfl h
  by_cases c3 : x0 = 3
  · replace h := h.2.2.1 c3
    refine wp_tblIn (tgt := 34) (off := 33) dX7_holdsOf_1 (by rw [c3]; decide) (by rw [c3]; decide) (by rw [c3]; rfl) (by decide) ?_
    refine wp_iconst (v := 1) dX7_holdsOf_34 rfl ?_
    exact wn_iret dX7_holdsOf_35 rfl h
  by_cases c4 : x0 = 4
  · replace h := h.2.2.2.1 c4
    refine wp_tblIn (tgt := 36) (off := 35) dX7_holdsOf_1 (by rw [c4]; decide) (by rw [c4]; decide) (by rw [c4]; rfl) (by decide) ?_
    refine wp_iconst (v := 5) dX7_holdsOf_36 rfl ?_
    exact wn_iret dX7_holdsOf_37 rfl h
  replace h := h.2.2.2.2 c1 c2 c3 c4
  have ec1 := ne_ti (z := 1) c1 rfl
  have ec2 := ne_ti (z := 2) c2 rfl
  have ec3 := ne_ti (z := 3) c3 rfl
  have ec4 := ne_ti (z := 4) c4 rfl
  refine wp_tblOut (tgt := 38) dX7_holdsOf_1 (by omega) (by decide) ?_
  refine wp_iconst (v := 2) dX7_holdsOf_38 rfl ?_
  exact wn_iret dX7_holdsOf_39 rfl h
theorem cp_X7_holdsOf (G : Gl) (d : Nat) (X : Sh) (M : Mm) (k : Int32) : Cn G m_X7_holdsOf d [.int k] X M (fun M2 x => M2 = M ∧ x = f_holds k) := by
  refine Cn.of (by decide) (Nat.le_of_ble_eq_true rfl) ?_
  refine bX7_holdsOf_0 ⟨fun h => ⟨rfl, ?_⟩, fun h => ⟨rfl, ?_⟩, fun h => ⟨rfl, ?_⟩, fun h => ⟨rfl, ?_⟩, fun h1 h2 h3 h4 => ⟨rfl, ?_⟩⟩
  · simp [f_holds, h]
  · simp [f_holds, h]
  · simp [f_holds, h]
  · simp [f_holds, h]
  · simp [f_holds, h1, h2, h3, h4]
theorem bX7_amountOf_0 {G : Gl} {d : Nat} {X : Sh} {M : Mm} {Q : Mm → Int32 → Prop} {x0 : Int32} {x1 : Int32} {x2 : Int32} {x3 : Int32} (hd : 1 ≤ d) (h : ((x3 = 0 → Q M (f_bulk x0 x2)) ∧ (x3 = 1 → Q M (f_iron x0 x1 x2)) ∧ (x3 = 2 → Q M (f_acid x0 x1 x2)) ∧ (x3 ≠ 0 → x3 ≠ 1 → x3 ≠ 2 → Q M (f_lime x0 x1 x2)))) : Wn G m_X7_amountOf (d + 1) 0 [(0, .int x0), (1, .int x1), (2, .int x2), (3, .int x3)] [] X M Q := by
  refine wp_iload_n 3 dX7_amountOf_0 rfl rfl ?_
  by_cases c1 : x3 = 0
  · replace h := h.1 c1
    refine wp_tblIn (tgt := 28) (off := 27) dX7_amountOf_1 (by rw [c1]; decide) (by rw [c1]; decide) (by rw [c1]; rfl) (by decide) ?_
    refine wp_iload_n 0 dX7_amountOf_28 rfl rfl ?_
    refine wp_iload_n 2 dX7_amountOf_29 rfl rfl ?_
    refine wp_csip dX7_amountOf_30 ck_RX7_15 rfl (as := [.int x0, .int x2]) rfl rfl (Nat.le_of_ble_eq_true rfl) (cp_X7_bulkOf G d X M x0 x2) ?_
    exact wn_iret dX7_amountOf_33 rfl h
  by_cases c2 : x3 = 1
  · replace h := h.2.1 c2
    refine wp_tblIn (tgt := 34) (off := 33) dX7_amountOf_1 (by rw [c2]; decide) (by rw [c2]; decide) (by rw [c2]; rfl) (by decide) ?_
    refine wp_iload_n 0 dX7_amountOf_34 rfl rfl ?_
    refine wp_iload_n 1 dX7_amountOf_35 rfl rfl ?_
    refine wp_iload_n 2 dX7_amountOf_36 rfl rfl ?_
    refine wp_csip dX7_amountOf_37 ck_RX7_19 rfl (as := [.int x0, .int x1, .int x2]) rfl rfl (Nat.le_of_ble_eq_true rfl) (cp_X7_ironOf G d X M x0 x1 x2) ?_
    exact wn_iret dX7_amountOf_40 rfl h
  by_cases c3 : x3 = 2
  · replace h := h.2.2.1 c3
    refine wp_tblIn (tgt := 41) (off := 40) dX7_amountOf_1 (by rw [c3]; decide) (by rw [c3]; decide) (by rw [c3]; rfl) (by decide) ?_
    refine wp_iload_n 0 dX7_amountOf_41 rfl rfl ?_
    refine wp_iload_n 1 dX7_amountOf_42 rfl rfl ?_
    refine wp_iload_n 2 dX7_amountOf_43 rfl rfl ?_
    refine wp_csip dX7_amountOf_44 ck_RX7_23 rfl (as := [.int x0, .int x1, .int x2]) rfl rfl (Nat.le_of_ble_eq_true rfl) (cp_X7_acidOf G d (by omega) X M x0 x1 x2) ?_
    exact wn_iret dX7_amountOf_47 rfl h
  replace h := h.2.2.2 c1 c2 c3
  have ec1 := ne_ti (z := 0) c1 rfl
  have ec2 := ne_ti (z := 1) c2 rfl
  have ec3 := ne_ti (z := 2) c3 rfl
  refine wp_tblOut (tgt := 48) dX7_amountOf_1 (by omega) (by decide) ?_
  refine wp_iload_n 0 dX7_amountOf_48 rfl rfl ?_
  refine wp_iload_n 1 dX7_amountOf_49 rfl rfl ?_
  refine wp_iload_n 2 dX7_amountOf_50 rfl rfl ?_
  refine wp_csip dX7_amountOf_51 ck_RX7_26 rfl (as := [.int x0, .int x1, .int x2]) rfl rfl (Nat.le_of_ble_eq_true rfl) (cp_X7_limeOf G d X M x0 x1 x2) ?_
  exact wn_iret dX7_amountOf_54 rfl h
theorem cp_X7_amountOf (G : Gl) (d : Nat) (hd : 2 ≤ d) (X : Sh) (M : Mm) (k sh t w : Int32) : Cn G m_X7_amountOf d [.int k, .int sh, .int t, .int w] X M (fun M2 x => M2 = M ∧ x = f_amount k sh t w) := by
  obtain ⟨d, rfl⟩ : ∃ d1, d = d1 + 1 := ⟨d - 1, by omega⟩
  refine Cn.of (by decide) (Nat.le_of_ble_eq_true rfl) ?_
  refine bX7_amountOf_0 (by omega) ⟨fun h => ⟨rfl, ?_⟩, fun h => ⟨rfl, ?_⟩, fun h => ⟨rfl, ?_⟩, fun h1 h2 h3 => ⟨rfl, ?_⟩⟩
  · simp [f_amount, h]
  · simp [f_amount, h]
  · simp [f_amount, h]
  · simp [f_amount, h1, h2, h3]
theorem bX11_isIn_0 {G : Gl} {d : Nat} {X : Sh} {M : Mm} {Q : Mm → Int32 → Prop} {x0 : Int64} {x2 : Int64} {x4 : Int64}  (h : (((lg_cmp x0 x2) < 0 → Q M 0) ∧ (¬ ((lg_cmp x0 x2) < 0) → Q M (if ¬ (0 < (lg_cmp x0 x4)) then 1 else 0)))) : Wn G m_X11_isIn d 0 [(0, .long x0), (2, .long x2), (4, .long x4)] [] X M Q := by
  refine wp_lload_n 0 dX11_isIn_0 rfl rfl ?_
  refine wp_lload_n 1 dX11_isIn_1 rfl rfl ?_
  refine wp_lcmp dX11_isIn_2 ?_
  refine wp_if_lt (tgt := 17) dX11_isIn_3 (by decide) (fun c1 => ?_) (fun c1 => ?_)
  · replace h := h.1 c1
    refine wp_iconst (v := 0) dX11_isIn_17 rfl ?_
    exact wn_zret dX11_isIn_18 rfl (Or.inl rfl) h
  · replace h := h.2 c1
    refine wp_lload_n 0 dX11_isIn_6 rfl rfl ?_
    refine wp_lload 2 dX11_isIn_7 rfl ?_
    refine wp_lcmp dX11_isIn_9 ?_
    have K3 : Wp G m_X11_isIn d 0 0 0 0 18 [(0, .long x0), (2, .long x2), (4, .long x4)] [.int (if ¬ (0 < (lg_cmp x0 x4)) then 1 else 0)] X M (fun X2 M2 v => X2 = X ∧ ∃ x, v = some (.int x) ∧ Q M2 x) := by
      exact wn_zret dX11_isIn_18 rfl (ite_01 _) h
    refine wp_if_gt (tgt := 17) dX11_isIn_10 (by decide) (fun c2 => ?_) (fun c2 => ?_)
    · refine wp_iconst (v := 0) dX11_isIn_17 rfl ?_
      rw [if_neg (fun q => q c2)] at K3
      exact K3
    · refine wp_iconst (v := 1) dX11_isIn_13 rfl ?_
      refine wp_goto (tgt := 18) dX11_isIn_14 (by decide) ?_
      rw [if_pos c2] at K3
      exact K3
theorem cp_X11_isIn (G : Gl) (d : Nat) (X : Sh) (M : Mm) (v lo hi : Int32) {L H : Int64} (hl : lo.toInt64 = L) (hh : hi.toInt64 = H) : Cn G m_X11_isIn d [.long v.toInt64, .long L, .long H] X M (fun M2 x => M2 = M ∧ x = (if lo ≤ v ∧ v ≤ hi then 1 else 0)) := by
  refine Cn.of (by decide) (Nat.le_of_ble_eq_true rfl) ?_
  subst hl
  subst hh
  refine bX11_isIn_0 ?_
  rw [lg_cmp_lt, lw_lt]
  refine ⟨fun h => ⟨rfl, ?_⟩, fun h => ⟨rfl, ite_b ?_⟩⟩
  · rw [if_neg (fun q => absurd h (i_nlt.mpr q.1))]
  · rw [lg_cmp_gt, lw_lt]
    exact ⟨fun h2 => ⟨i_nlt.mp h, i_nlt.mp h2⟩, fun h2 => i_nlt.mpr h2.2⟩
theorem bX11_bulkOf_0 {G : Gl} {d : Nat} {X : Sh} {M : Mm} {Q : Mm → Int32 → Prop} {x0 : Int32} {x1 : Int32}  (h : ((x0 = 1 → Q M (x1 - (x1 / 4))) ∧ (¬ (x0 = 1) → ((¬ (x0 = 3) → Q M (if x0 = 2 then (2 * x1) else x1)) ∧ (x0 = 3 → Q M (x1 - (x1 / 4))))))) : Wn G m_X11_bulkOf d 0 [(0, .int x0), (1, .int x1)] [] X M Q := by
  refine wp_iload_n 0 dX11_bulkOf_0 rfl rfl ?_
  refine wp_iconst (v := 1) dX11_bulkOf_1 rfl ?_
  refine wp_icmp_eq (tgt := 10) dX11_bulkOf_2 (by decide) (fun c1 => ?_) (fun c1 => ?_)
  · replace h := h.1 c1
    refine wp_iload_n 1 dX11_bulkOf_10 rfl rfl ?_
    refine wp_iload_n 1 dX11_bulkOf_11 rfl rfl ?_
    refine wp_iconst (v := 4) dX11_bulkOf_12 rfl ?_
    refine wp_idiv dX11_bulkOf_13 (by decide) ?_
    refine wp_isub dX11_bulkOf_14 ?_
    refine wp_goto (tgt := 30) dX11_bulkOf_15 (by decide) ?_
    exact wn_iret dX11_bulkOf_30 rfl h
  · replace h := h.2 c1
    refine wp_iload_n 0 dX11_bulkOf_5 rfl rfl ?_
    refine wp_iconst (v := 3) dX11_bulkOf_6 rfl ?_
    refine wp_icmp_ne (tgt := 18) dX11_bulkOf_7 (by decide) (fun c2 => ?_) (fun c2 => ?_)
    · replace h := h.1 c2
      refine wp_iload_n 0 dX11_bulkOf_18 rfl rfl ?_
      refine wp_iconst (v := 2) dX11_bulkOf_19 rfl ?_
      have K5 : Wp G m_X11_bulkOf d 0 0 0 0 30 [(0, .int x0), (1, .int x1)] [.int ((if x0 = 2 then (2 * x1) else x1))] X M (fun X2 M2 v => X2 = X ∧ ∃ x, v = some (.int x) ∧ Q M2 x) := by
        exact wn_iret dX11_bulkOf_30 rfl h
      refine wp_icmp_ne (tgt := 29) dX11_bulkOf_20 (by decide) (fun c4 => ?_) (fun c4 => ?_)
      · refine wp_iload_n 1 dX11_bulkOf_29 rfl rfl ?_
        rw [if_neg c4] at K5
        exact K5
      · refine wp_iconst (v := 2) dX11_bulkOf_23 rfl ?_
        refine wp_iload_n 1 dX11_bulkOf_24 rfl rfl ?_
        refine wp_imul dX11_bulkOf_25 ?_
        refine wp_goto (tgt := 30) dX11_bulkOf_26 (by decide) ?_
        rw [if_pos c4] at K5
        exact K5
    · replace h := h.2 c2
      refine wp_iload_n 1 dX11_bulkOf_10 rfl rfl ?_
      refine wp_iload_n 1 dX11_bulkOf_11 rfl rfl ?_
      refine wp_iconst (v := 4) dX11_bulkOf_12 rfl ?_
      refine wp_idiv dX11_bulkOf_13 (by decide) ?_
      refine wp_isub dX11_bulkOf_14 ?_
      refine wp_goto (tgt := 30) dX11_bulkOf_15 (by decide) ?_
      exact wn_iret dX11_bulkOf_30 rfl h
theorem cp_X11_bulkOf (G : Gl) (d : Nat) (X : Sh) (M : Mm) (k t : Int32) : Cn G m_X11_bulkOf d [.int k, .int t] X M (fun M2 x => M2 = M ∧ x = f_bulk k t) := by
  refine Cn.of (by decide) (Nat.le_of_ble_eq_true rfl) ?_
  refine bX11_bulkOf_0 ?_
  by_cases h1 : k = 1 <;> by_cases h2 : k = 2 <;> by_cases h3 : k = 3 <;> simp_all [f_bulk]
theorem bX11_ironOf_0 {G : Gl} {d : Nat} {X : Sh} {M : Mm} {Q : Mm → Int32 → Prop} {x0 : Int32} {x1 : Int32} {x2 : Int32}  (h : ((¬ (x0 = 3) → (∀ v2 : Int32, v2 = (((x2 * x1) / 100) - 0) → ((x0 = 1 → Q M (if 0 ≤ v2 then v2 else 0)) ∧ (¬ (x0 = 1) → ((¬ (x0 = 3) → Q M 0) ∧ (x0 = 3 → Q M (if 0 ≤ v2 then v2 else 0))))))) ∧ (x0 = 3 → (∀ v9 : Int32, v9 = (((x2 * x1) / 100) - (x2 / 20)) → ((x0 = 1 → Q M (if 0 ≤ v9 then v9 else 0)) ∧ (¬ (x0 = 1) → ((¬ (x0 = 3) → Q M 0) ∧ (x0 = 3 → Q M (if 0 ≤ v9 then v9 else 0))))))))) : Wn G m_X11_ironOf d 0 [(0, .int x0), (1, .int x1), (2, .int x2)] [] X M Q := by
  refine wp_iload_n 2 dX11_ironOf_0 rfl rfl ?_
  refine wp_iload_n 1 dX11_ironOf_1 rfl rfl ?_
  refine wp_imul dX11_ironOf_2 ?_
  refine wp_bipush (v := 100) dX11_ironOf_3 rfl ?_
  refine wp_idiv dX11_ironOf_5 (by decide) ?_
  refine wp_iload_n 0 dX11_ironOf_6 rfl rfl ?_
  refine wp_iconst (v := 3) dX11_ironOf_7 rfl ?_
  refine wp_icmp_ne (tgt := 18) dX11_ironOf_8 (by decide) (fun c1 => ?_) (fun c1 => ?_)
  · replace h := h.1 c1
    refine wp_iconst (v := 0) dX11_ironOf_18 rfl ?_
    refine wp_isub dX11_ironOf_19 ?_
    refine wp_topi (fun v2 ev2 => ?_)
    replace h := h v2 ev2
    refine wp_istore_n (lo2 := [(3, .int _), (0, .int _), (1, .int _), (2, .int _)]) dX11_ironOf_20 rfl (by decide) rfl ?_
    refine wp_iload_n 1 dX11_ironOf_21 rfl rfl ?_
    refine wp_iconst (v := 1) dX11_ironOf_22 rfl ?_
    refine wp_icmp_eq (tgt := 31) dX11_ironOf_23 (by decide) (fun c3 => ?_) (fun c3 => ?_)
    · replace h := h.1 c3
      refine wp_iload_n 0 dX11_ironOf_31 rfl rfl ?_
      have K5 : Wp G m_X11_ironOf d 0 0 0 0 40 [(3, .int v2), (0, .int x0), (1, .int x1), (2, .int x2)] [.int ((if 0 ≤ v2 then v2 else 0))] X M (fun X2 M2 v => X2 = X ∧ ∃ x, v = some (.int x) ∧ Q M2 x) := by
        exact wn_iret dX11_ironOf_40 rfl h
      refine wp_if_ge (tgt := 39) dX11_ironOf_32 (by decide) (fun c4 => ?_) (fun c4 => ?_)
      · refine wp_iload_n 0 dX11_ironOf_39 rfl rfl ?_
        rw [if_pos c4] at K5
        exact K5
      · refine wp_iconst (v := 0) dX11_ironOf_35 rfl ?_
        refine wp_goto (tgt := 40) dX11_ironOf_36 (by decide) ?_
        rw [if_neg c4] at K5
        exact K5
    · replace h := h.2 c3
      refine wp_iload_n 1 dX11_ironOf_26 rfl rfl ?_
      refine wp_iconst (v := 3) dX11_ironOf_27 rfl ?_
      refine wp_icmp_ne (tgt := 35) dX11_ironOf_28 (by decide) (fun c6 => ?_) (fun c6 => ?_)
      · replace h := h.1 c6
        refine wp_iconst (v := 0) dX11_ironOf_35 rfl ?_
        refine wp_goto (tgt := 40) dX11_ironOf_36 (by decide) ?_
        exact wn_iret dX11_ironOf_40 rfl h
      · replace h := h.2 c6
        refine wp_iload_n 0 dX11_ironOf_31 rfl rfl ?_
        have K8 : Wp G m_X11_ironOf d 0 0 0 0 40 [(3, .int v2), (0, .int x0), (1, .int x1), (2, .int x2)] [.int ((if 0 ≤ v2 then v2 else 0))] X M (fun X2 M2 v => X2 = X ∧ ∃ x, v = some (.int x) ∧ Q M2 x) := by
          exact wn_iret dX11_ironOf_40 rfl h
        refine wp_if_ge (tgt := 39) dX11_ironOf_32 (by decide) (fun c7 => ?_) (fun c7 => ?_)
        · refine wp_iload_n 0 dX11_ironOf_39 rfl rfl ?_
          rw [if_pos c7] at K8
          exact K8
        · refine wp_iconst (v := 0) dX11_ironOf_35 rfl ?_
          refine wp_goto (tgt := 40) dX11_ironOf_36 (by decide) ?_
          rw [if_neg c7] at K8
          exact K8
  · replace h := h.2 c1
    refine wp_iload_n 2 dX11_ironOf_11 rfl rfl ?_
    refine wp_bipush (v := 20) dX11_ironOf_12 rfl ?_
    refine wp_idiv dX11_ironOf_14 (by decide) ?_
    refine wp_goto (tgt := 19) dX11_ironOf_15 (by decide) ?_
    refine wp_isub dX11_ironOf_19 ?_
    refine wp_topi (fun v9 ev9 => ?_)
    replace h := h v9 ev9
    refine wp_istore_n (lo2 := [(3, .int _), (0, .int _), (1, .int _), (2, .int _)]) dX11_ironOf_20 rfl (by decide) rfl ?_
    refine wp_iload_n 1 dX11_ironOf_21 rfl rfl ?_
    refine wp_iconst (v := 1) dX11_ironOf_22 rfl ?_
    refine wp_icmp_eq (tgt := 31) dX11_ironOf_23 (by decide) (fun c10 => ?_) (fun c10 => ?_)
    · replace h := h.1 c10
      refine wp_iload_n 0 dX11_ironOf_31 rfl rfl ?_
      have K12 : Wp G m_X11_ironOf d 0 0 0 0 40 [(3, .int v9), (0, .int x0), (1, .int x1), (2, .int x2)] [.int ((if 0 ≤ v9 then v9 else 0))] X M (fun X2 M2 v => X2 = X ∧ ∃ x, v = some (.int x) ∧ Q M2 x) := by
        exact wn_iret dX11_ironOf_40 rfl h
      refine wp_if_ge (tgt := 39) dX11_ironOf_32 (by decide) (fun c11 => ?_) (fun c11 => ?_)
      · refine wp_iload_n 0 dX11_ironOf_39 rfl rfl ?_
        rw [if_pos c11] at K12
        exact K12
      · refine wp_iconst (v := 0) dX11_ironOf_35 rfl ?_
        refine wp_goto (tgt := 40) dX11_ironOf_36 (by decide) ?_
        rw [if_neg c11] at K12
        exact K12
    · replace h := h.2 c10
      refine wp_iload_n 1 dX11_ironOf_26 rfl rfl ?_
      refine wp_iconst (v := 3) dX11_ironOf_27 rfl ?_
      refine wp_icmp_ne (tgt := 35) dX11_ironOf_28 (by decide) (fun c13 => ?_) (fun c13 => ?_)
      · replace h := h.1 c13
        refine wp_iconst (v := 0) dX11_ironOf_35 rfl ?_
        refine wp_goto (tgt := 40) dX11_ironOf_36 (by decide) ?_
        exact wn_iret dX11_ironOf_40 rfl h
      · replace h := h.2 c13
        refine wp_iload_n 0 dX11_ironOf_31 rfl rfl ?_
        have K15 : Wp G m_X11_ironOf d 0 0 0 0 40 [(3, .int v9), (0, .int x0), (1, .int x1), (2, .int x2)] [.int ((if 0 ≤ v9 then v9 else 0))] X M (fun X2 M2 v => X2 = X ∧ ∃ x, v = some (.int x) ∧ Q M2 x) := by
          exact wn_iret dX11_ironOf_40 rfl h
        refine wp_if_ge (tgt := 39) dX11_ironOf_32 (by decide) (fun c14 => ?_) (fun c14 => ?_)
        · refine wp_iload_n 0 dX11_ironOf_39 rfl rfl ?_
          rw [if_pos c14] at K15
          exact K15
        · refine wp_iconst (v := 0) dX11_ironOf_35 rfl ?_
          refine wp_goto (tgt := 40) dX11_ironOf_36 (by decide) ?_
          rw [if_neg c14] at K15
          exact K15
theorem cp_X11_ironOf (G : Gl) (d : Nat) (X : Sh) (M : Mm) (k sh t : Int32) : Cn G m_X11_ironOf d [.int k, .int sh, .int t] X M (fun M2 x => M2 = M ∧ x = g_iron k sh t) := by
  refine Cn.of (by decide) (Nat.le_of_ble_eq_true rfl) ?_
  refine bX11_ironOf_0 ?_
  by_cases h1 : k = 1 <;> by_cases h3 : k = 3 <;> simp_all [g_iron]
theorem bX11_acidOf_0 {G : Gl} {d : Nat} {X : Sh} {M : Mm} {Q : Mm → Int32 → Prop} {x0 : Int32} {x1 : Int32} {x2 : Int32}  (h : ((¬ (x0 = 5) → ((x0 = 1 → Q M ((x2 / 10) + ((x2 - (g_iron x0 x1 x2)) / 4))) ∧ (¬ (x0 = 1) → ((¬ (x0 = 3) → Q M ((x2 / 10) + 0)) ∧ (x0 = 3 → Q M ((x2 / 10) + ((x2 - (g_iron x0 x1 x2)) / 4))))))) ∧ (x0 = 5 → Q M 0))) : Wn G m_X11_acidOf (d + 1) 0 [(0, .int x0), (1, .int x1), (2, .int x2)] [] X M Q := by
  refine wp_iload_n 0 dX11_acidOf_0 rfl rfl ?_
  refine wp_iconst (v := 5) dX11_acidOf_1 rfl ?_
  refine wp_icmp_ne (tgt := 7) dX11_acidOf_2 (by decide) (fun c1 => ?_) (fun c1 => ?_)
  · replace h := h.1 c1
    refine wp_iload_n 2 dX11_acidOf_7 rfl rfl ?_
    refine wp_bipush (v := 10) dX11_acidOf_8 rfl ?_
    refine wp_idiv dX11_acidOf_10 (by decide) ?_
    refine wp_iload_n 0 dX11_acidOf_11 rfl rfl ?_
    refine wp_iconst (v := 1) dX11_acidOf_12 rfl ?_
    refine wp_icmp_eq (tgt := 21) dX11_acidOf_13 (by decide) (fun c2 => ?_) (fun c2 => ?_)
    · replace h := h.1 c2
      refine wp_iload_n 2 dX11_acidOf_21 rfl rfl ?_
      refine wp_iload_n 0 dX11_acidOf_22 rfl rfl ?_
      refine wp_iload_n 1 dX11_acidOf_23 rfl rfl ?_
      refine wp_iload_n 2 dX11_acidOf_24 rfl rfl ?_
      refine wp_csip dX11_acidOf_25 ck_RX11_82 rfl (as := [.int x0, .int x1, .int x2]) rfl rfl (Nat.le_of_ble_eq_true rfl) (cp_X11_ironOf G d X M x0 x1 x2) ?_
      refine wp_isub dX11_acidOf_28 ?_
      refine wp_iconst (v := 4) dX11_acidOf_29 rfl ?_
      refine wp_idiv dX11_acidOf_30 (by decide) ?_
      refine wp_goto (tgt := 35) dX11_acidOf_31 (by decide) ?_
      refine wp_iadd dX11_acidOf_35 ?_
      exact wn_iret dX11_acidOf_36 rfl h
    · replace h := h.2 c2
      refine wp_iload_n 0 dX11_acidOf_16 rfl rfl ?_
      refine wp_iconst (v := 3) dX11_acidOf_17 rfl ?_
      refine wp_icmp_ne (tgt := 34) dX11_acidOf_18 (by decide) (fun c3 => ?_) (fun c3 => ?_)
      · replace h := h.1 c3
        refine wp_iconst (v := 0) dX11_acidOf_34 rfl ?_
        refine wp_iadd dX11_acidOf_35 ?_
        exact wn_iret dX11_acidOf_36 rfl h
      · replace h := h.2 c3
        refine wp_iload_n 2 dX11_acidOf_21 rfl rfl ?_
        refine wp_iload_n 0 dX11_acidOf_22 rfl rfl ?_
        refine wp_iload_n 1 dX11_acidOf_23 rfl rfl ?_
        refine wp_iload_n 2 dX11_acidOf_24 rfl rfl ?_
        refine wp_csip dX11_acidOf_25 ck_RX11_82 rfl (as := [.int x0, .int x1, .int x2]) rfl rfl (Nat.le_of_ble_eq_true rfl) (cp_X11_ironOf G d X M x0 x1 x2) ?_
        refine wp_isub dX11_acidOf_28 ?_
        refine wp_iconst (v := 4) dX11_acidOf_29 rfl ?_
        refine wp_idiv dX11_acidOf_30 (by decide) ?_
        refine wp_goto (tgt := 35) dX11_acidOf_31 (by decide) ?_
        refine wp_iadd dX11_acidOf_35 ?_
        exact wn_iret dX11_acidOf_36 rfl h
  · replace h := h.2 c1
    refine wp_iconst (v := 0) dX11_acidOf_5 rfl ?_
    exact wn_iret dX11_acidOf_6 rfl h
theorem cp_X11_acidOf (G : Gl) (d : Nat) (hd : 1 ≤ d) (X : Sh) (M : Mm) (k sh t : Int32) : Cn G m_X11_acidOf d [.int k, .int sh, .int t] X M (fun M2 x => M2 = M ∧ x = g_acid k sh t) := by
  obtain ⟨d, rfl⟩ : ∃ d1, d = d1 + 1 := ⟨d - 1, by omega⟩
  refine Cn.of (by decide) (Nat.le_of_ble_eq_true rfl) ?_
  refine bX11_acidOf_0 ?_
  by_cases h1 : k = 1 <;> by_cases h3 : k = 3 <;> by_cases h5 : k = 5 <;> simp_all [g_acid]
theorem bX11_limeOf_0 {G : Gl} {d : Nat} {X : Sh} {M : Mm} {Q : Mm → Int32 → Prop} {x0 : Int32} {x1 : Int32} {x2 : Int32}  (h : ((¬ (x0 = 3) → ((¬ (x0 = 5) → Q M 0) ∧ (x0 = 5 → Q M ((x2 * x1) / 100)))) ∧ (x0 = 3 → Q M (x2 / 8)))) : Wn G m_X11_limeOf d 0 [(0, .int x0), (1, .int x1), (2, .int x2)] [] X M Q := by
  refine wp_iload_n 0 dX11_limeOf_0 rfl rfl ?_
  refine wp_iconst (v := 3) dX11_limeOf_1 rfl ?_
  refine wp_icmp_ne (tgt := 12) dX11_limeOf_2 (by decide) (fun c1 => ?_) (fun c1 => ?_)
  · replace h := h.1 c1
    refine wp_iload_n 0 dX11_limeOf_12 rfl rfl ?_
    refine wp_iconst (v := 5) dX11_limeOf_13 rfl ?_
    refine wp_icmp_ne (tgt := 26) dX11_limeOf_14 (by decide) (fun c2 => ?_) (fun c2 => ?_)
    · replace h := h.1 c2
      refine wp_iconst (v := 0) dX11_limeOf_26 rfl ?_
      exact wn_iret dX11_limeOf_27 rfl h
    · replace h := h.2 c2
      refine wp_iload_n 2 dX11_limeOf_17 rfl rfl ?_
      refine wp_iload_n 1 dX11_limeOf_18 rfl rfl ?_
      refine wp_imul dX11_limeOf_19 ?_
      refine wp_bipush (v := 100) dX11_limeOf_20 rfl ?_
      refine wp_idiv dX11_limeOf_22 (by decide) ?_
      refine wp_goto (tgt := 27) dX11_limeOf_23 (by decide) ?_
      exact wn_iret dX11_limeOf_27 rfl h
  · replace h := h.2 c1
    refine wp_iload_n 2 dX11_limeOf_5 rfl rfl ?_
    refine wp_bipush (v := 8) dX11_limeOf_6 rfl ?_
    refine wp_idiv dX11_limeOf_8 (by decide) ?_
    refine wp_goto (tgt := 27) dX11_limeOf_9 (by decide) ?_
    exact wn_iret dX11_limeOf_27 rfl h
theorem cp_X11_limeOf (G : Gl) (d : Nat) (X : Sh) (M : Mm) (k sh t : Int32) : Cn G m_X11_limeOf d [.int k, .int sh, .int t] X M (fun M2 x => M2 = M ∧ x = f_lime k sh t) := by
  refine Cn.of (by decide) (Nat.le_of_ble_eq_true rfl) ?_
  refine bX11_limeOf_0 ?_
  by_cases h1 : k = 3 <;> by_cases h3 : k = 5 <;> simp_all [f_lime]
theorem bX11_holdsOf_0 {G : Gl} {d : Nat} {X : Sh} {M : Mm} {Q : Mm → Int32 → Prop} {x0 : Int32}  (h : ((x0 = 1 → Q M 3) ∧ (x0 = 2 → Q M 1) ∧ (x0 = 3 → Q M 1) ∧ (x0 = 4 → Q M 5) ∧ (x0 ≠ 1 → x0 ≠ 2 → x0 ≠ 3 → x0 ≠ 4 → Q M 2))) : Wn G m_X11_holdsOf d 0 [(0, .int x0)] [] X M Q := by
  refine wp_iload_n 0 dX11_holdsOf_0 rfl rfl ?_
  by_cases c1 : x0 = 1
  · replace h := h.1 c1
    refine wp_tblIn (tgt := 32) (off := 31) dX11_holdsOf_1 (by rw [c1]; decide) (by rw [c1]; decide) (by rw [c1]; rfl) (by decide) ?_
    refine wp_iconst (v := 3) dX11_holdsOf_32 rfl ?_
    exact wn_iret dX11_holdsOf_33 rfl h
  by_cases c2 : x0 = 2
  · replace h := h.2.1 c2
    refine wp_tblIn (tgt := 34) (off := 33) dX11_holdsOf_1 (by rw [c2]; decide) (by rw [c2]; decide) (by rw [c2]; rfl) (by decide) ?_
    refine wp_iconst (v := 1) dX11_holdsOf_34 rfl ?_
    exact wn_iret dX11_holdsOf_35 rfl h
  by_cases c3 : x0 = 3
  · replace h := h.2.2.1 c3
    refine wp_tblIn (tgt := 34) (off := 33) dX11_holdsOf_1 (by rw [c3]; decide) (by rw [c3]; decide) (by rw [c3]; rfl) (by decide) ?_
    refine wp_iconst (v := 1) dX11_holdsOf_34 rfl ?_
    exact wn_iret dX11_holdsOf_35 rfl h
  by_cases c4 : x0 = 4
  · replace h := h.2.2.2.1 c4
    refine wp_tblIn (tgt := 36) (off := 35) dX11_holdsOf_1 (by rw [c4]; decide) (by rw [c4]; decide) (by rw [c4]; rfl) (by decide) ?_
    refine wp_iconst (v := 5) dX11_holdsOf_36 rfl ?_
    exact wn_iret dX11_holdsOf_37 rfl h
  replace h := h.2.2.2.2 c1 c2 c3 c4
  have ec1 := ne_ti (z := 1) c1 rfl
  have ec2 := ne_ti (z := 2) c2 rfl
  have ec3 := ne_ti (z := 3) c3 rfl
  have ec4 := ne_ti (z := 4) c4 rfl
  refine wp_tblOut (tgt := 38) dX11_holdsOf_1 (by omega) (by decide) ?_
  refine wp_iconst (v := 2) dX11_holdsOf_38 rfl ?_
  exact wn_iret dX11_holdsOf_39 rfl h
theorem cp_X11_holdsOf (G : Gl) (d : Nat) (X : Sh) (M : Mm) (k : Int32) : Cn G m_X11_holdsOf d [.int k] X M (fun M2 x => M2 = M ∧ x = f_holds k) := by
  refine Cn.of (by decide) (Nat.le_of_ble_eq_true rfl) ?_
  refine bX11_holdsOf_0 ?_
  by_cases h1 : k = 1 <;> by_cases h2 : k = 2 <;> by_cases h3 : k = 3 <;> by_cases h4 : k = 4 <;> simp_all [f_holds]
theorem bX11_isOf_0 {G : Gl} {d : Nat} {X : Sh} {M : Mm} {Q : Mm → Int32 → Prop} {x0 : Int32} {x1 : Int32}  (h : ((x1 = 0 → Q M 1) ∧ (¬ (x1 = 0) → ((x0 = x1 → Q M 1) ∧ (¬ (x0 = x1) → ((¬ (x1 = 1) → Q M (if ((x1 = 2) ∧ (x0 = 4)) then 1 else 0)) ∧ (x1 = 1 → ((x0 = 3 → Q M 1) ∧ (¬ (x0 = 3) → Q M (if ((x1 = 2) ∧ (x0 = 4)) then 1 else 0)))))))))) : Wn G m_X11_isOf d 0 [(0, .int x0), (1, .int x1)] [] X M Q := by
  refine wp_iload_n 1 dX11_isOf_0 rfl rfl ?_
  refine wp_if_eq (tgt := 29) dX11_isOf_1 (by decide) (fun c1 => ?_) (fun c1 => ?_)
  · replace h := h.1 c1
    refine wp_iconst (v := 1) dX11_isOf_29 rfl ?_
    refine wp_goto (tgt := 34) dX11_isOf_30 (by decide) ?_
    exact wn_zret dX11_isOf_34 rfl (Or.inr rfl) h
  · replace h := h.2 c1
    refine wp_iload_n 0 dX11_isOf_4 rfl rfl ?_
    refine wp_iload_n 1 dX11_isOf_5 rfl rfl ?_
    refine wp_icmp_eq (tgt := 29) dX11_isOf_6 (by decide) (fun c2 => ?_) (fun c2 => ?_)
    · replace h := h.1 c2
      refine wp_iconst (v := 1) dX11_isOf_29 rfl ?_
      refine wp_goto (tgt := 34) dX11_isOf_30 (by decide) ?_
      exact wn_zret dX11_isOf_34 rfl (Or.inr rfl) h
    · replace h := h.2 c2
      refine wp_iload_n 1 dX11_isOf_9 rfl rfl ?_
      refine wp_iconst (v := 1) dX11_isOf_10 rfl ?_
      refine wp_icmp_ne (tgt := 19) dX11_isOf_11 (by decide) (fun c3 => ?_) (fun c3 => ?_)
      · replace h := h.1 c3
        refine wp_iload_n 1 dX11_isOf_19 rfl rfl ?_
        refine wp_iconst (v := 2) dX11_isOf_20 rfl ?_
        have K6 : Wp G m_X11_isOf d 0 0 0 0 34 [(0, .int x0), (1, .int x1)] [.int (if ((x1 = 2) ∧ (x0 = 4)) then 1 else 0)] X M (fun X2 M2 v => X2 = X ∧ ∃ x, v = some (.int x) ∧ Q M2 x) := by
          exact wn_zret dX11_isOf_34 rfl (ite_01 _) h
        refine wp_icmp_ne (tgt := 33) dX11_isOf_21 (by decide) (fun c4 => ?_) (fun c4 => ?_)
        · refine wp_iconst (v := 0) dX11_isOf_33 rfl ?_
          rw [if_neg (fun q => c4 q.1)] at K6
          exact K6
        · refine wp_iload_n 0 dX11_isOf_24 rfl rfl ?_
          refine wp_iconst (v := 4) dX11_isOf_25 rfl ?_
          refine wp_icmp_ne (tgt := 33) dX11_isOf_26 (by decide) (fun c5 => ?_) (fun c5 => ?_)
          · refine wp_iconst (v := 0) dX11_isOf_33 rfl ?_
            rw [if_neg (fun q => c5 q.2)] at K6
            exact K6
          · refine wp_iconst (v := 1) dX11_isOf_29 rfl ?_
            refine wp_goto (tgt := 34) dX11_isOf_30 (by decide) ?_
            rw [if_pos ⟨c4, c5⟩] at K6
            exact K6
      · replace h := h.2 c3
        refine wp_iload_n 0 dX11_isOf_14 rfl rfl ?_
        refine wp_iconst (v := 3) dX11_isOf_15 rfl ?_
        refine wp_icmp_eq (tgt := 29) dX11_isOf_16 (by decide) (fun c7 => ?_) (fun c7 => ?_)
        · replace h := h.1 c7
          refine wp_iconst (v := 1) dX11_isOf_29 rfl ?_
          refine wp_goto (tgt := 34) dX11_isOf_30 (by decide) ?_
          exact wn_zret dX11_isOf_34 rfl (Or.inr rfl) h
        · replace h := h.2 c7
          refine wp_iload_n 1 dX11_isOf_19 rfl rfl ?_
          refine wp_iconst (v := 2) dX11_isOf_20 rfl ?_
          have K10 : Wp G m_X11_isOf d 0 0 0 0 34 [(0, .int x0), (1, .int x1)] [.int (if ((x1 = 2) ∧ (x0 = 4)) then 1 else 0)] X M (fun X2 M2 v => X2 = X ∧ ∃ x, v = some (.int x) ∧ Q M2 x) := by
            exact wn_zret dX11_isOf_34 rfl (ite_01 _) h
          refine wp_icmp_ne (tgt := 33) dX11_isOf_21 (by decide) (fun c8 => ?_) (fun c8 => ?_)
          · refine wp_iconst (v := 0) dX11_isOf_33 rfl ?_
            rw [if_neg (fun q => c8 q.1)] at K10
            exact K10
          · refine wp_iload_n 0 dX11_isOf_24 rfl rfl ?_
            refine wp_iconst (v := 4) dX11_isOf_25 rfl ?_
            refine wp_icmp_ne (tgt := 33) dX11_isOf_26 (by decide) (fun c9 => ?_) (fun c9 => ?_)
            · refine wp_iconst (v := 0) dX11_isOf_33 rfl ?_
              rw [if_neg (fun q => c9 q.2)] at K10
              exact K10
            · refine wp_iconst (v := 1) dX11_isOf_29 rfl ?_
              refine wp_goto (tgt := 34) dX11_isOf_30 (by decide) ?_
              rw [if_pos ⟨c8, c9⟩] at K10
              exact K10
theorem cp_X11_isOf (G : Gl) (d : Nat) (X : Sh) (M : Mm) (own k : Int32) : Cn G m_X11_isOf d [.int own, .int k] X M (fun M2 x => M2 = M ∧ x = (if p_isOf own k then 1 else 0)) := by
  refine Cn.of (by decide) (Nat.le_of_ble_eq_true rfl) ?_
  refine bX11_isOf_0 ?_
  by_cases h0 : k = 0 <;> by_cases h1 : own = k <;> by_cases h2 : k = 1 <;> by_cases h3 : own = 3 <;> simp_all [p_isOf]
theorem bX11_orNone_0 {G : Gl} {d : Nat} {X : Sh} {M : Mm} {Q : Mm → Int32 → Prop} {x0 : Int32}  (h : ((0 ≤ x0 → Q M x0) ∧ (¬ (0 ≤ x0) → Q M (-1000000005)))) : Wn G m_X11_orNone d 0 [(0, .int x0)] [] X M Q := by
  refine wp_iload_n 0 dX11_orNone_0 rfl rfl ?_
  refine wp_if_ge (tgt := 9) dX11_orNone_1 (by decide) (fun c1 => ?_) (fun c1 => ?_)
  · replace h := h.1 c1
    refine wp_iload_n 0 dX11_orNone_9 rfl rfl ?_
    exact wn_iret dX11_orNone_10 rfl h
  · replace h := h.2 c1
    refine wp_ldc dX11_orNone_4 kc_RX11_77 ?_
    refine wp_goto (tgt := 10) dX11_orNone_6 (by decide) ?_
    exact wn_iret dX11_orNone_10 rfl h
theorem cp_X11_orNone (G : Gl) (d : Nat) (X : Sh) (M : Mm) (v : Int32) : Cn G m_X11_orNone d [.int v] X M (fun M2 x => M2 = M ∧ x = f_orNone v) := by
  refine Cn.of (by decide) (Nat.le_of_ble_eq_true rfl) ?_
  refine bX11_orNone_0 ⟨fun h => ⟨rfl, ?_⟩, fun h => ⟨rfl, ?_⟩⟩
  · unfold f_orNone
    rw [if_neg (i_nlt.mpr h)]
  · unfold f_orNone
    rw [if_pos (i_nle.mp h)]
theorem bX11_least_0 {G : Gl} {d : Nat} {X : Sh} {M : Mm} {Q : Mm → Int32 → Prop} {x0 : Int32} {x1 : Int32}  (h : Q M (if x1 ≤ x0 then x1 else x0)) : Wn G m_X11_least d 0 [(0, .int x0), (1, .int x1)] [] X M Q := by
  refine wp_iload_n 0 dX11_least_0 rfl rfl ?_
  refine wp_iload_n 1 dX11_least_1 rfl rfl ?_
  have K2 : Wp G m_X11_least d 0 0 0 0 10 [(0, .int x0), (1, .int x1)] [.int ((if x1 ≤ x0 then x1 else x0))] X M (fun X2 M2 v => X2 = X ∧ ∃ x, v = some (.int x) ∧ Q M2 x) := by
    exact wn_iret dX11_least_10 rfl h
  refine wp_icmp_ge (tgt := 9) dX11_least_2 (by decide) (fun c1 => ?_) (fun c1 => ?_)
  · refine wp_iload_n 1 dX11_least_9 rfl rfl ?_
    rw [if_pos c1] at K2
    exact K2
  · refine wp_iload_n 0 dX11_least_5 rfl rfl ?_
    refine wp_goto (tgt := 10) dX11_least_6 (by decide) ?_
    rw [if_neg c1] at K2
    exact K2
theorem cp_X11_least (G : Gl) (d : Nat) (X : Sh) (M : Mm) (a b : Int32) : Cn G m_X11_least d [.int a, .int b] X M (fun M2 x => M2 = M ∧ x = (if b ≤ a then b else a)) := by
  refine Cn.of (by decide) (Nat.le_of_ble_eq_true rfl) ?_
  exact bX11_least_0 ⟨rfl, rfl⟩
theorem bX11_heldIn_0 {G : Gl} {d : Nat} {X : Sh} {M : Mm} {Q : Mm → Int32 → Prop} {x0 : Int32} {x1 : Int32}  (h : Q M (if 0 ≤ x0 then (if x0 ≤ x1 then x0 else x1) else 0)) : Wn G m_X11_heldIn d 0 [(0, .int x0), (1, .int x1)] [] X M Q := by
  refine wp_iload_n 0 dX11_heldIn_0 rfl rfl ?_
  have K3 : Wp G m_X11_heldIn d 0 0 0 0 18 [(0, .int x0), (1, .int x1)] [.int ((if 0 ≤ x0 then (if x0 ≤ x1 then x0 else x1) else 0))] X M (fun X2 M2 v => X2 = X ∧ ∃ x, v = some (.int x) ∧ Q M2 x) := by
    exact wn_iret dX11_heldIn_18 rfl h
  refine wp_if_ge (tgt := 8) dX11_heldIn_1 (by decide) (fun c1 => ?_) (fun c1 => ?_)
  · refine wp_iload_n 0 dX11_heldIn_8 rfl rfl ?_
    refine wp_iload_n 1 dX11_heldIn_9 rfl rfl ?_
    refine wp_icmp_le (tgt := 17) dX11_heldIn_10 (by decide) (fun c2 => ?_) (fun c2 => ?_)
    · refine wp_iload_n 0 dX11_heldIn_17 rfl rfl ?_
      rw [if_pos c1] at K3
      rw [if_pos c2] at K3
      exact K3
    · refine wp_iload_n 1 dX11_heldIn_13 rfl rfl ?_
      refine wp_goto (tgt := 18) dX11_heldIn_14 (by decide) ?_
      rw [if_pos c1] at K3
      rw [if_neg c2] at K3
      exact K3
  · refine wp_iconst (v := 0) dX11_heldIn_4 rfl ?_
    refine wp_goto (tgt := 18) dX11_heldIn_5 (by decide) ?_
    rw [if_neg c1] at K3
    exact K3
theorem cp_X11_heldIn (G : Gl) (d : Nat) (X : Sh) (M : Mm) (v most : Int32) : Cn G m_X11_heldIn d [.int v, .int most] X M (fun M2 x => M2 = M ∧ x = f_heldIn v most) := by
  refine Cn.of (by decide) (Nat.le_of_ble_eq_true rfl) ?_
  refine bX11_heldIn_0 ⟨rfl, ?_⟩
  unfold f_heldIn
  by_cases h1 : v < 0
  · rw [if_neg (i_nle.mpr h1), if_pos h1]
  · rw [if_pos (i_nlt.mp h1), if_neg h1]
    by_cases h2 : most < v
    · rw [if_neg (i_nle.mpr h2), if_pos h2]
    · rw [if_pos (i_nlt.mp h2), if_neg h2]
theorem bX11_binAt_0 {G : Gl} {d : Nat} {X : Sh} {M : Mm} {Q : Mm → Int32 → Prop} {a : Nat} {x1 : Int32} (hS : Sh10 X a) (h : Q M (20 + (5 * x1))) : Wn G m_X11_binAt d 0 [(0, .ref a), (1, .int x1)] [] X M Q := by
  refine wp_bipush (v := 20) dX11_binAt_0 rfl ?_
  refine wp_iconst (v := 5) dX11_binAt_2 rfl ?_
  refine wp_iload_n 1 dX11_binAt_3 rfl rfl ?_
  refine wp_imul dX11_binAt_4 ?_
  refine wp_iadd dX11_binAt_5 ?_
  exact wn_iret dX11_binAt_6 rfl h
theorem cp_X11_binAt (G : Gl) (d : Nat) (X : Sh) (M : Mm) (a : Nat) (v : Int32) (hS : Sh10 X a) : Cn G m_X11_binAt d [.ref a, .int v] X M (fun M2 x => M2 = M ∧ x = 20 + 5 * v) := by
  refine Cn.of (by decide) (Nat.le_of_ble_eq_true rfl) ?_
  exact bX11_binAt_0 hS ⟨rfl, rfl⟩
theorem bX11_layerAt_0 {G : Gl} {d : Nat} {X : Sh} {M : Mm} {Q : Mm → Int32 → Prop} {a : Nat} {x1 : Int32} (hS : Sh10 X a) (h : Q M (60 + (10 * x1))) : Wn G m_X11_layerAt d 0 [(0, .ref a), (1, .int x1)] [] X M Q := by
  refine wp_bipush (v := 60) dX11_layerAt_0 rfl ?_
  refine wp_bipush (v := 10) dX11_layerAt_2 rfl ?_
  refine wp_iload_n 1 dX11_layerAt_4 rfl rfl ?_
  refine wp_imul dX11_layerAt_5 ?_
  refine wp_iadd dX11_layerAt_6 ?_
  exact wn_iret dX11_layerAt_7 rfl h
theorem cp_X11_layerAt (G : Gl) (d : Nat) (X : Sh) (M : Mm) (a : Nat) (v : Int32) (hS : Sh10 X a) : Cn G m_X11_layerAt d [.ref a, .int v] X M (fun M2 x => M2 = M ∧ x = 60 + 10 * v) := by
  refine Cn.of (by decide) (Nat.le_of_ble_eq_true rfl) ?_
  exact bX11_layerAt_0 hS ⟨rfl, rfl⟩
theorem bX11_ladleAt_0 {G : Gl} {d : Nat} {X : Sh} {M : Mm} {Q : Mm → Int32 → Prop} {a : Nat} {x1 : Int32} (hS : Sh10 X a) (h : Q M (320 + (2 * x1))) : Wn G m_X11_ladleAt d 0 [(0, .ref a), (1, .int x1)] [] X M Q := by
  refine wp_sipush (v := 320) dX11_ladleAt_0 rfl ?_
  refine wp_iconst (v := 2) dX11_ladleAt_3 rfl ?_
  refine wp_iload_n 1 dX11_ladleAt_4 rfl rfl ?_
  refine wp_imul dX11_ladleAt_5 ?_
  refine wp_iadd dX11_ladleAt_6 ?_
  exact wn_iret dX11_ladleAt_7 rfl h
theorem cp_X11_ladleAt (G : Gl) (d : Nat) (X : Sh) (M : Mm) (a : Nat) (v : Int32) (hS : Sh10 X a) : Cn G m_X11_ladleAt d [.ref a, .int v] X M (fun M2 x => M2 = M ∧ x = 320 + 2 * v) := by
  refine Cn.of (by decide) (Nat.le_of_ble_eq_true rfl) ?_
  exact bX11_ladleAt_0 hS ⟨rfl, rfl⟩
theorem bX11_textAt_0 {G : Gl} {d : Nat} {X : Sh} {M : Mm} {Q : Mm → Int32 → Prop} {a : Nat} {x1 : Int32} (hS : Sh10 X a) (h : Q M (340 + (200 * x1))) : Wn G m_X11_textAt d 0 [(0, .ref a), (1, .int x1)] [] X M Q := by
  refine wp_sipush (v := 340) dX11_textAt_0 rfl ?_
  refine wp_sipush (v := 200) dX11_textAt_3 rfl ?_
  refine wp_iload_n 1 dX11_textAt_6 rfl rfl ?_
  refine wp_imul dX11_textAt_7 ?_
  refine wp_iadd dX11_textAt_8 ?_
  exact wn_iret dX11_textAt_9 rfl h
theorem cp_X11_textAt (G : Gl) (d : Nat) (X : Sh) (M : Mm) (a : Nat) (v : Int32) (hS : Sh10 X a) : Cn G m_X11_textAt d [.ref a, .int v] X M (fun M2 x => M2 = M ∧ x = 340 + 200 * v) := by
  refine Cn.of (by decide) (Nat.le_of_ble_eq_true rfl) ?_
  exact bX11_textAt_0 hS ⟨rfl, rfl⟩
theorem bX11_areaOf_0 {G : Gl} {d : Nat} {X : Sh} {M : Mm} {Q : Mm → Int32 → Prop} {x0 : Int32}  (h : Q M ((2 * x0) + 1)) : Wn G m_X11_areaOf d 0 [(0, .int x0)] [] X M Q := by
  refine wp_iconst (v := 2) dX11_areaOf_0 rfl ?_
  refine wp_iload_n 0 dX11_areaOf_1 rfl rfl ?_
  refine wp_imul dX11_areaOf_2 ?_
  refine wp_iconst (v := 1) dX11_areaOf_3 rfl ?_
  refine wp_iadd dX11_areaOf_4 ?_
  exact wn_iret dX11_areaOf_5 rfl h
theorem cp_X11_areaOf (G : Gl) (d : Nat) (X : Sh) (M : Mm) (v : Int32) : Cn G m_X11_areaOf d [.int v] X M (fun M2 x => M2 = M ∧ x = 2 * v + 1) := by
  refine Cn.of (by decide) (Nat.le_of_ble_eq_true rfl) ?_
  exact bX11_areaOf_0 ⟨rfl, rfl⟩
theorem bX11_isSheet_0 {G : Gl} {d : Nat} {X : Sh} {M : Mm} {Q : Mm → Int32 → Prop} {x0 : Int32}  (h : Q M (if 0 ≤ x0 ∧ x0 ≤ 3 then 1 else 0)) : Wn G m_X11_isSheet (d + 1) 0 [(0, .int x0)] [] X M Q := by
  refine wp_iload_n 0 dX11_isSheet_0 rfl rfl ?_
  refine wp_i2l dX11_isSheet_1 ?_
  refine wp_lconst (v := 0) dX11_isSheet_2 rfl ?_
  refine wp_ldc2 dX11_isSheet_3 kc_RX11_111 ?_
  refine wp_csip dX11_isSheet_6 ck_RX11_78 rfl (as := [.long x0.toInt64, .long 0, .long 3]) rfl rfl (Nat.le_of_ble_eq_true rfl) (cp_X11_isIn G d X M x0 0 3 (by decide) (by decide)) ?_
  exact wn_zret dX11_isSheet_9 rfl (ite_01 _) h
theorem cp_X11_isSheet (G : Gl) (d : Nat) (hd : 1 ≤ d) (X : Sh) (M : Mm) (v : Int32) : Cn G m_X11_isSheet d [.int v] X M (fun M2 x => M2 = M ∧ x = (if 0 ≤ v ∧ v ≤ 3 then 1 else 0)) := by
  obtain ⟨d, rfl⟩ : ∃ d1, d = d1 + 1 := ⟨d - 1, by omega⟩
  refine Cn.of (by decide) (Nat.le_of_ble_eq_true rfl) ?_
  exact bX11_isSheet_0 ⟨rfl, rfl⟩
theorem bX11_isSlot_0 {G : Gl} {d : Nat} {X : Sh} {M : Mm} {Q : Mm → Int32 → Prop} {x0 : Int32}  (h : Q M (if 0 ≤ x0 ∧ x0 ≤ 4 then 1 else 0)) : Wn G m_X11_isSlot (d + 1) 0 [(0, .int x0)] [] X M Q := by
  refine wp_iload_n 0 dX11_isSlot_0 rfl rfl ?_
  refine wp_i2l dX11_isSlot_1 ?_
  refine wp_lconst (v := 0) dX11_isSlot_2 rfl ?_
  refine wp_ldc2 dX11_isSlot_3 kc_RX11_185 ?_
  refine wp_csip dX11_isSlot_6 ck_RX11_78 rfl (as := [.long x0.toInt64, .long 0, .long 4]) rfl rfl (Nat.le_of_ble_eq_true rfl) (cp_X11_isIn G d X M x0 0 4 (by decide) (by decide)) ?_
  exact wn_zret dX11_isSlot_9 rfl (ite_01 _) h
theorem cp_X11_isSlot (G : Gl) (d : Nat) (hd : 1 ≤ d) (X : Sh) (M : Mm) (v : Int32) : Cn G m_X11_isSlot d [.int v] X M (fun M2 x => M2 = M ∧ x = (if 0 ≤ v ∧ v ≤ 4 then 1 else 0)) := by
  obtain ⟨d, rfl⟩ : ∃ d1, d = d1 + 1 := ⟨d - 1, by omega⟩
  refine Cn.of (by decide) (Nat.le_of_ble_eq_true rfl) ?_
  exact bX11_isSlot_0 ⟨rfl, rfl⟩
theorem bX11_isBin_0 {G : Gl} {d : Nat} {X : Sh} {M : Mm} {Q : Mm → Int32 → Prop} {a : Nat} {x1 : Int32} (hS : Sh10 X a) (h : Q M (if 0 ≤ x1 ∧ x1 ≤ ((mI M (a + 1) 0) - 1) then 1 else 0)) : Wn G m_X11_isBin (d + 1) 0 [(0, .ref a), (1, .int x1)] [] X M Q := by
  refine wp_iload_n 1 dX11_isBin_0 rfl rfl ?_
  refine wp_i2l dX11_isBin_1 ?_
  refine wp_lconst (v := 0) dX11_isBin_2 rfl ?_
  refine wp_aload_n 0 dX11_isBin_3 rfl rfl ?_
  refine wp_getR dX11_isBin_4 fl_RX11_7 rfl (sh10_K hS) (sh10_F_s hS) ?_
  refine wp_iconst (v := 0) dX11_isBin_7 rfl ?_
  refine wp_iald (n := 2950) dX11_isBin_8 (sh10_K_s hS) (sh10_N_s hS) (by decide) rfl (by decide) ?_
  refine wp_iconst (v := 1) dX11_isBin_9 rfl ?_
  refine wp_isub dX11_isBin_10 ?_
  refine wp_i2l dX11_isBin_11 ?_
  refine wp_csip dX11_isBin_12 ck_RX11_78 rfl (as := [.long x1.toInt64, .long 0, .long (((mI M (a + 1) 0) - 1).toInt64)]) rfl rfl (Nat.le_of_ble_eq_true rfl) (cp_X11_isIn G d X M x1 0 ((mI M (a + 1) 0) - 1) (by decide) rfl) ?_
  exact wn_zret dX11_isBin_15 rfl (ite_01 _) h
theorem cp_X11_isBin (G : Gl) (d : Nat) (hd : 1 ≤ d) (X : Sh) (M : Mm) (a : Nat) (v : Int32) (hS : Sh10 X a) : Cn G m_X11_isBin d [.ref a, .int v] X M (fun M2 x => M2 = M ∧ x = (if 0 ≤ v ∧ v ≤ mI M (a + 1) 0 - 1 then 1 else 0)) := by
  obtain ⟨d, rfl⟩ : ∃ d1, d = d1 + 1 := ⟨d - 1, by omega⟩
  refine Cn.of (by decide) (Nat.le_of_ble_eq_true rfl) ?_
  exact bX11_isBin_0 hS ⟨rfl, rfl⟩
theorem bX11_isText_0 {G : Gl} {d : Nat} {X : Sh} {M : Mm} {Q : Mm → Int32 → Prop} {a : Nat} {x1 : Int32} (hS : Sh10 X a) (h : Q M (if 0 ≤ x1 ∧ x1 ≤ ((mI M (a + 1) 2) - 1) then 1 else 0)) : Wn G m_X11_isText (d + 1) 0 [(0, .ref a), (1, .int x1)] [] X M Q := by
  refine wp_iload_n 1 dX11_isText_0 rfl rfl ?_
  refine wp_i2l dX11_isText_1 ?_
  refine wp_lconst (v := 0) dX11_isText_2 rfl ?_
  refine wp_aload_n 0 dX11_isText_3 rfl rfl ?_
  refine wp_getR dX11_isText_4 fl_RX11_7 rfl (sh10_K hS) (sh10_F_s hS) ?_
  refine wp_iconst (v := 2) dX11_isText_7 rfl ?_
  refine wp_iald (n := 2950) dX11_isText_8 (sh10_K_s hS) (sh10_N_s hS) (by decide) rfl (by decide) ?_
  refine wp_iconst (v := 1) dX11_isText_9 rfl ?_
  refine wp_isub dX11_isText_10 ?_
  refine wp_i2l dX11_isText_11 ?_
  refine wp_csip dX11_isText_12 ck_RX11_78 rfl (as := [.long x1.toInt64, .long 0, .long (((mI M (a + 1) 2) - 1).toInt64)]) rfl rfl (Nat.le_of_ble_eq_true rfl) (cp_X11_isIn G d X M x1 0 ((mI M (a + 1) 2) - 1) (by decide) rfl) ?_
  exact wn_zret dX11_isText_15 rfl (ite_01 _) h
theorem cp_X11_isText (G : Gl) (d : Nat) (hd : 1 ≤ d) (X : Sh) (M : Mm) (a : Nat) (v : Int32) (hS : Sh10 X a) : Cn G m_X11_isText d [.ref a, .int v] X M (fun M2 x => M2 = M ∧ x = (if 0 ≤ v ∧ v ≤ mI M (a + 1) 2 - 1 then 1 else 0)) := by
  obtain ⟨d, rfl⟩ : ∃ d1, d = d1 + 1 := ⟨d - 1, by omega⟩
  refine Cn.of (by decide) (Nat.le_of_ble_eq_true rfl) ?_
  exact bX11_isText_0 hS ⟨rfl, rfl⟩
theorem bX0_has_0 {G : Gl} {d : Nat} {X : Sh} {M : Mm} {Q : Mm → Int32 → Prop} {a : Nat} {x1 : Int32} (hS : Sh0 X a) (h : Q M (if ((¬ (x1 < 0)) ∧ (¬ ((mI M a 5) ≤ x1))) then 1 else 0)) : Wn G m_X0_has d 0 [(0, .ref a), (1, .int x1)] [] X M Q := by
  refine wp_iload_n 1 dX0_has_0 rfl rfl ?_
  have K3 : Wp G m_X0_has d 0 0 0 0 17 [(0, .ref a), (1, .int x1)] [.int (if ((¬ (x1 < 0)) ∧ (¬ ((mI M a 5) ≤ x1))) then 1 else 0)] X M (fun X2 M2 v => X2 = X ∧ ∃ x, v = some (.int x) ∧ Q M2 x) := by
    exact wn_zret dX0_has_17 rfl (ite_01 _) h
  refine wp_if_lt (tgt := 16) dX0_has_1 (by decide) (fun c1 => ?_) (fun c1 => ?_)
  · refine wp_iconst (v := 0) dX0_has_16 rfl ?_
    rw [if_neg (fun q => (fun q => q c1) q.1)] at K3
    exact K3
  · refine wp_iload_n 1 dX0_has_4 rfl rfl ?_
    refine wp_aload_n 0 dX0_has_5 rfl rfl ?_
    refine wp_getI dX0_has_6 fl_RX0_27 rfl (sh0_K hS) ?_
    refine wp_icmp_ge (tgt := 16) dX0_has_9 (by decide) (fun c2 => ?_) (fun c2 => ?_)
    · refine wp_iconst (v := 0) dX0_has_16 rfl ?_
      rw [if_neg (fun q => (fun q => q c2) q.2)] at K3
      exact K3
    · refine wp_iconst (v := 1) dX0_has_12 rfl ?_
      refine wp_goto (tgt := 17) dX0_has_13 (by decide) ?_
      rw [if_pos ⟨c1, c2⟩] at K3
      exact K3
theorem cp_X0_has (G : Gl) (d : Nat) (X : Sh) (M : Mm) (a : Nat) (v : Int32) (hS : Sh0 X a) : Cn G m_X0_has d [.ref a, .int v] X M (fun M2 x => M2 = M ∧ x = (if 0 ≤ v ∧ v < mI M a 5 then 1 else 0)) := by
  refine Cn.of (by decide) (Nat.le_of_ble_eq_true rfl) ?_
  exact bX0_has_0 hS ⟨rfl, ite_b (and_congr i_nlt i_nle)⟩
theorem bX1_has_0 {G : Gl} {d : Nat} {X : Sh} {M : Mm} {Q : Mm → Int32 → Prop} {a : Nat} {x1 : Int32} (hS : Sh1 X a) (h : Q M (if ((¬ (x1 < 0)) ∧ (¬ ((mI M a 5) ≤ x1))) then 1 else 0)) : Wn G m_X1_has d 0 [(0, .ref a), (1, .int x1)] [] X M Q := by
  refine wp_iload_n 1 dX1_has_0 rfl rfl ?_
  have K3 : Wp G m_X1_has d 0 0 0 0 17 [(0, .ref a), (1, .int x1)] [.int (if ((¬ (x1 < 0)) ∧ (¬ ((mI M a 5) ≤ x1))) then 1 else 0)] X M (fun X2 M2 v => X2 = X ∧ ∃ x, v = some (.int x) ∧ Q M2 x) := by
    exact wn_zret dX1_has_17 rfl (ite_01 _) h
  refine wp_if_lt (tgt := 16) dX1_has_1 (by decide) (fun c1 => ?_) (fun c1 => ?_)
  · refine wp_iconst (v := 0) dX1_has_16 rfl ?_
    rw [if_neg (fun q => (fun q => q c1) q.1)] at K3
    exact K3
  · refine wp_iload_n 1 dX1_has_4 rfl rfl ?_
    refine wp_aload_n 0 dX1_has_5 rfl rfl ?_
    refine wp_getI dX1_has_6 fl_RX1_31 rfl (sh1_K hS) ?_
    refine wp_icmp_ge (tgt := 16) dX1_has_9 (by decide) (fun c2 => ?_) (fun c2 => ?_)
    · refine wp_iconst (v := 0) dX1_has_16 rfl ?_
      rw [if_neg (fun q => (fun q => q c2) q.2)] at K3
      exact K3
    · refine wp_iconst (v := 1) dX1_has_12 rfl ?_
      refine wp_goto (tgt := 17) dX1_has_13 (by decide) ?_
      rw [if_pos ⟨c1, c2⟩] at K3
      exact K3
theorem cp_X1_has (G : Gl) (d : Nat) (X : Sh) (M : Mm) (a : Nat) (v : Int32) (hS : Sh1 X a) : Cn G m_X1_has d [.ref a, .int v] X M (fun M2 x => M2 = M ∧ x = (if 0 ≤ v ∧ v < mI M a 5 then 1 else 0)) := by
  refine Cn.of (by decide) (Nat.le_of_ble_eq_true rfl) ?_
  exact bX1_has_0 hS ⟨rfl, ite_b (and_congr i_nlt i_nle)⟩
theorem bX9_has_0 {G : Gl} {d : Nat} {X : Sh} {M : Mm} {Q : Mm → Int32 → Prop} {a : Nat} {x1 : Int32} (hS : Sh8 X a) (h : Q M (if ((¬ (x1 < 0)) ∧ (¬ ((mI M a 5) ≤ x1))) then 1 else 0)) : Wn G m_X9_has d 0 [(0, .ref a), (1, .int x1)] [] X M Q := by
  refine wp_iload_n 1 dX9_has_0 rfl rfl ?_
  have K3 : Wp G m_X9_has d 0 0 0 0 17 [(0, .ref a), (1, .int x1)] [.int (if ((¬ (x1 < 0)) ∧ (¬ ((mI M a 5) ≤ x1))) then 1 else 0)] X M (fun X2 M2 v => X2 = X ∧ ∃ x, v = some (.int x) ∧ Q M2 x) := by
    exact wn_zret dX9_has_17 rfl (ite_01 _) h
  refine wp_if_lt (tgt := 16) dX9_has_1 (by decide) (fun c1 => ?_) (fun c1 => ?_)
  · refine wp_iconst (v := 0) dX9_has_16 rfl ?_
    rw [if_neg (fun q => (fun q => q c1) q.1)] at K3
    exact K3
  · refine wp_iload_n 1 dX9_has_4 rfl rfl ?_
    refine wp_aload_n 0 dX9_has_5 rfl rfl ?_
    refine wp_getI dX9_has_6 fl_RX9_29 rfl (sh8_K hS) ?_
    refine wp_icmp_ge (tgt := 16) dX9_has_9 (by decide) (fun c2 => ?_) (fun c2 => ?_)
    · refine wp_iconst (v := 0) dX9_has_16 rfl ?_
      rw [if_neg (fun q => (fun q => q c2) q.2)] at K3
      exact K3
    · refine wp_iconst (v := 1) dX9_has_12 rfl ?_
      refine wp_goto (tgt := 17) dX9_has_13 (by decide) ?_
      rw [if_pos ⟨c1, c2⟩] at K3
      exact K3
theorem cp_X9_has (G : Gl) (d : Nat) (X : Sh) (M : Mm) (a : Nat) (v : Int32) (hS : Sh8 X a) : Cn G m_X9_has d [.ref a, .int v] X M (fun M2 x => M2 = M ∧ x = (if 0 ≤ v ∧ v < mI M a 5 then 1 else 0)) := by
  refine Cn.of (by decide) (Nat.le_of_ble_eq_true rfl) ?_
  exact bX9_has_0 hS ⟨rfl, ite_b (and_congr i_nlt i_nle)⟩
theorem bX3_has_0 {G : Gl} {d : Nat} {X : Sh} {M : Mm} {Q : Mm → Int32 → Prop} {a : Nat} {x1 : Int32} (hS : Sh3 X a) (h : Q M (if ((¬ (x1 < 0)) ∧ (¬ ((mI M a 2) ≤ x1))) then 1 else 0)) : Wn G m_X3_has d 0 [(0, .ref a), (1, .int x1)] [] X M Q := by
  refine wp_iload_n 1 dX3_has_0 rfl rfl ?_
  have K3 : Wp G m_X3_has d 0 0 0 0 17 [(0, .ref a), (1, .int x1)] [.int (if ((¬ (x1 < 0)) ∧ (¬ ((mI M a 2) ≤ x1))) then 1 else 0)] X M (fun X2 M2 v => X2 = X ∧ ∃ x, v = some (.int x) ∧ Q M2 x) := by
    exact wn_zret dX3_has_17 rfl (ite_01 _) h
  refine wp_if_lt (tgt := 16) dX3_has_1 (by decide) (fun c1 => ?_) (fun c1 => ?_)
  · refine wp_iconst (v := 0) dX3_has_16 rfl ?_
    rw [if_neg (fun q => (fun q => q c1) q.1)] at K3
    exact K3
  · refine wp_iload_n 1 dX3_has_4 rfl rfl ?_
    refine wp_aload_n 0 dX3_has_5 rfl rfl ?_
    refine wp_getI dX3_has_6 fl_RX3_18 rfl (sh3_K hS) ?_
    refine wp_icmp_ge (tgt := 16) dX3_has_9 (by decide) (fun c2 => ?_) (fun c2 => ?_)
    · refine wp_iconst (v := 0) dX3_has_16 rfl ?_
      rw [if_neg (fun q => (fun q => q c2) q.2)] at K3
      exact K3
    · refine wp_iconst (v := 1) dX3_has_12 rfl ?_
      refine wp_goto (tgt := 17) dX3_has_13 (by decide) ?_
      rw [if_pos ⟨c1, c2⟩] at K3
      exact K3
theorem cp_X3_has (G : Gl) (d : Nat) (X : Sh) (M : Mm) (a : Nat) (v : Int32) (hS : Sh3 X a) : Cn G m_X3_has d [.ref a, .int v] X M (fun M2 x => M2 = M ∧ x = (if 0 ≤ v ∧ v < mI M a 2 then 1 else 0)) := by
  refine Cn.of (by decide) (Nat.le_of_ble_eq_true rfl) ?_
  exact bX3_has_0 hS ⟨rfl, ite_b (and_congr i_nlt i_nle)⟩
theorem bX5_has_0 {G : Gl} {d : Nat} {X : Sh} {M : Mm} {Q : Mm → Int32 → Prop} {a : Nat} {x1 : Int32} (hS : Sh5 X a) (h : Q M (if ((¬ (x1 < 0)) ∧ (¬ ((mI M a 1) ≤ x1))) then 1 else 0)) : Wn G m_X5_has d 0 [(0, .ref a), (1, .int x1)] [] X M Q := by
  refine wp_iload_n 1 dX5_has_0 rfl rfl ?_
  have K3 : Wp G m_X5_has d 0 0 0 0 17 [(0, .ref a), (1, .int x1)] [.int (if ((¬ (x1 < 0)) ∧ (¬ ((mI M a 1) ≤ x1))) then 1 else 0)] X M (fun X2 M2 v => X2 = X ∧ ∃ x, v = some (.int x) ∧ Q M2 x) := by
    exact wn_zret dX5_has_17 rfl (ite_01 _) h
  refine wp_if_lt (tgt := 16) dX5_has_1 (by decide) (fun c1 => ?_) (fun c1 => ?_)
  · refine wp_iconst (v := 0) dX5_has_16 rfl ?_
    rw [if_neg (fun q => (fun q => q c1) q.1)] at K3
    exact K3
  · refine wp_iload_n 1 dX5_has_4 rfl rfl ?_
    refine wp_aload_n 0 dX5_has_5 rfl rfl ?_
    refine wp_getI dX5_has_6 fl_RX5_15 rfl (sh5_K hS) ?_
    refine wp_icmp_ge (tgt := 16) dX5_has_9 (by decide) (fun c2 => ?_) (fun c2 => ?_)
    · refine wp_iconst (v := 0) dX5_has_16 rfl ?_
      rw [if_neg (fun q => (fun q => q c2) q.2)] at K3
      exact K3
    · refine wp_iconst (v := 1) dX5_has_12 rfl ?_
      refine wp_goto (tgt := 17) dX5_has_13 (by decide) ?_
      rw [if_pos ⟨c1, c2⟩] at K3
      exact K3
theorem cp_X5_has (G : Gl) (d : Nat) (X : Sh) (M : Mm) (a : Nat) (v : Int32) (hS : Sh5 X a) : Cn G m_X5_has d [.ref a, .int v] X M (fun M2 x => M2 = M ∧ x = (if 0 ≤ v ∧ v < mI M a 1 then 1 else 0)) := by
  refine Cn.of (by decide) (Nat.le_of_ble_eq_true rfl) ?_
  exact bX5_has_0 hS ⟨rfl, ite_b (and_congr i_nlt i_nle)⟩
theorem bX1_hasRoom_0 {G : Gl} {d : Nat} {X : Sh} {M : Mm} {Q : Mm → Int32 → Prop} {a : Nat} (hS : Sh1 X a) (h : Q M (if ¬ (24 ≤ (mI M a 5)) then 1 else 0)) : Wn G m_X1_hasRoom d 0 [(0, .ref a)] [] X M Q := by
  refine wp_aload_n 0 dX1_hasRoom_0 rfl rfl ?_
  refine wp_getI dX1_hasRoom_1 fl_RX1_31 rfl (sh1_K hS) ?_
  refine wp_bipush (v := 24) dX1_hasRoom_4 rfl ?_
  have K2 : Wp G m_X1_hasRoom d 0 0 0 0 14 [(0, .ref a)] [.int (if ¬ (24 ≤ (mI M a 5)) then 1 else 0)] X M (fun X2 M2 v => X2 = X ∧ ∃ x, v = some (.int x) ∧ Q M2 x) := by
    exact wn_zret dX1_hasRoom_14 rfl (ite_01 _) h
  refine wp_icmp_ge (tgt := 13) dX1_hasRoom_6 (by decide) (fun c1 => ?_) (fun c1 => ?_)
  · refine wp_iconst (v := 0) dX1_hasRoom_13 rfl ?_
    rw [if_neg (fun q => q c1)] at K2
    exact K2
  · refine wp_iconst (v := 1) dX1_hasRoom_9 rfl ?_
    refine wp_goto (tgt := 14) dX1_hasRoom_10 (by decide) ?_
    rw [if_pos c1] at K2
    exact K2
theorem cp_X1_hasRoom (G : Gl) (d : Nat) (X : Sh) (M : Mm) (a : Nat) (hS : Sh1 X a) : Cn G m_X1_hasRoom d [.ref a] X M (fun M2 x => M2 = M ∧ x = (if mI M a 5 < 24 then 1 else 0)) := by
  refine Cn.of (by decide) (Nat.le_of_ble_eq_true rfl) ?_
  exact bX1_hasRoom_0 hS ⟨rfl, ite_b i_nle⟩
theorem bX1_basic_0 {G : Gl} {d : Nat} {X : Sh} {M : Mm} {Q : Mm → Int32 → Prop} {a : Nat} (hS : Sh1 X a) (h : Q M (f_basic (mI M a 3) (mI M a 2))) : Wn G m_X1_basic (d + 1) 0 [(0, .ref a)] [] X M Q := by
  refine wp_aload_n 0 dX1_basic_0 rfl rfl ?_
  refine wp_getI dX1_basic_1 fl_RX1_21 rfl (sh1_K hS) ?_
  refine wp_aload_n 0 dX1_basic_4 rfl rfl ?_
  refine wp_getI dX1_basic_5 fl_RX1_18 rfl (sh1_K hS) ?_
  refine wp_cnip dX1_basic_8 ck_RX1_71 (as := [.int ((mI M a 3)), .int ((mI M a 2))]) rfl rfl (Nat.le_of_ble_eq_true rfl) (cp_X10_basicOf G d X M (mI M a 3) (mI M a 2)) ?_
  exact wn_iret dX1_basic_11 rfl h
theorem cp_X1_basic (G : Gl) (d : Nat) (hd : 1 ≤ d) (X : Sh) (M : Mm) (a : Nat) (hS : Sh1 X a) : Cn G m_X1_basic d [.ref a] X M (fun M2 x => M2 = M ∧ x = f_basic (mI M a 3) (mI M a 2)) := by
  obtain ⟨d, rfl⟩ : ∃ d1, d = d1 + 1 := ⟨d - 1, by omega⟩
  refine Cn.of (by decide) (Nat.le_of_ble_eq_true rfl) ?_
  exact bX1_basic_0 hS ⟨rfl, rfl⟩
theorem bX11_basic_0 {G : Gl} {d : Nat} {X : Sh} {M : Mm} {Q : Mm → Int32 → Prop} {a : Nat} (hS : Sh10 X a) (h : ((¬ ((mI M (a + 1) 10) = 0) → (¬ ((mI M (a + 1) 10).toInt64 = 0) ∧ Q M (((100 * (mI M (a + 1) 11).toInt64) / (mI M (a + 1) 10).toInt64).toInt32))) ∧ ((mI M (a + 1) 10) = 0 → Q M 0))) : Wn G m_X11_basic d 0 [(0, .ref a)] [] X M Q := by
  refine wp_aload_n 0 dX11_basic_0 rfl rfl ?_
  refine wp_getR dX11_basic_1 fl_RX11_7 rfl (sh10_K hS) (sh10_F_s hS) ?_
  refine wp_bipush (v := 10) dX11_basic_4 rfl ?_
  refine wp_iald (n := 2950) dX11_basic_6 (sh10_K_s hS) (sh10_N_s hS) (by decide) rfl (by decide) ?_
  refine wp_if_ne (tgt := 14) dX11_basic_7 (by decide) (fun c1 => ?_) (fun c1 => ?_)
  · replace h := h.1 c1
    refine wp_ldc2 dX11_basic_14 kc_RX11_163 ?_
    refine wp_aload_n 0 dX11_basic_17 rfl rfl ?_
    refine wp_getR dX11_basic_18 fl_RX11_7 rfl (sh10_K hS) (sh10_F_s hS) ?_
    refine wp_bipush (v := 11) dX11_basic_21 rfl ?_
    refine wp_iald (n := 2950) dX11_basic_23 (sh10_K_s hS) (sh10_N_s hS) (by decide) rfl (by decide) ?_
    refine wp_i2l dX11_basic_24 ?_
    refine wp_lmul dX11_basic_25 ?_
    refine wp_aload_n 0 dX11_basic_26 rfl rfl ?_
    refine wp_getR dX11_basic_27 fl_RX11_7 rfl (sh10_K hS) (sh10_F_s hS) ?_
    refine wp_bipush (v := 10) dX11_basic_30 rfl ?_
    refine wp_iald (n := 2950) dX11_basic_32 (sh10_K_s hS) (sh10_N_s hS) (by decide) rfl (by decide) ?_
    refine wp_i2l dX11_basic_33 ?_
    obtain ⟨o2, h⟩ := h
    refine wp_ldiv dX11_basic_34 o2 ?_
    refine wp_l2i dX11_basic_35 ?_
    exact wn_iret dX11_basic_36 rfl h
  · replace h := h.2 c1
    refine wp_iconst (v := 0) dX11_basic_10 rfl ?_
    refine wp_goto (tgt := 36) dX11_basic_11 (by decide) ?_
    exact wn_iret dX11_basic_36 rfl h
theorem cp_X11_basic (G : Gl) (d : Nat) (X : Sh) (M : Mm) (a : Nat) (hS : Sh10 X a) : Cn G m_X11_basic d [.ref a] X M (fun M2 x => M2 = M ∧ x = f_basic (mI M (a + 1) 11) (mI M (a + 1) 10)) := by
  refine Cn.of (by decide) (Nat.le_of_ble_eq_true rfl) ?_
  refine bX11_basic_0 hS ⟨fun h => ⟨lw_ne0 h, rfl, ?_⟩, fun h => ⟨rfl, ?_⟩⟩
  · unfold f_basic
    rw [if_neg h]
  · unfold f_basic
    rw [if_pos h]
theorem bX11_isName_0 {G : Gl} {d : Nat} {X : Sh} {M : Mm} {Q : Mm → Int32 → Prop} {x0 : Int32} {x1 : Int32}  (h : ((x0 = 6 → ((x1 = 104 → Q M 1) ∧ (¬ (x1 = 104) → ((x1 = 116 → Q M 1) ∧ (¬ (x1 = 116) → Q M (if x1 = 105 then 1 else 0)))))) ∧ (x0 = 7 → ((x1 = 104 → Q M 1) ∧ (¬ (x1 = 104) → Q M (if x1 = 99 then 1 else 0)))) ∧ (x0 ≠ 6 → x0 ≠ 7 → ((x1 = 104 → Q M 1) ∧ (¬ (x1 = 104) → ((x1 = 116 → Q M 1) ∧ (¬ (x1 = 116) → ((x1 = 98 → Q M 1) ∧ (¬ (x1 = 98) → Q M (if x1 = 115 then 1 else 0)))))))))) : Wn G m_X11_isName d 0 [(0, .int x0), (1, .int x1)] [] X M Q := by
  refine wp_iload_n 0 dX11_isName_0 rfl rfl ?_
  by_cases c1 : x0 = 6
  · replace h := h.1 c1
    refine wp_lkup (tgt := 28) (off := 27) dX11_isName_1 (by decide) (by rw [c1]; decide) (by decide) ?_
    refine wp_iload_n 1 dX11_isName_28 rfl rfl ?_
    refine wp_bipush (v := 104) dX11_isName_29 rfl ?_
    refine wp_icmp_eq (tgt := 46) dX11_isName_31 (by decide) (fun c2 => ?_) (fun c2 => ?_)
    · replace h := h.1 c2
      refine wp_iconst (v := 1) dX11_isName_46 rfl ?_
      refine wp_goto (tgt := 51) dX11_isName_47 (by decide) ?_
      exact wn_zret dX11_isName_51 rfl (Or.inr rfl) h
    · replace h := h.2 c2
      refine wp_iload_n 1 dX11_isName_34 rfl rfl ?_
      refine wp_bipush (v := 116) dX11_isName_35 rfl ?_
      refine wp_icmp_eq (tgt := 46) dX11_isName_37 (by decide) (fun c3 => ?_) (fun c3 => ?_)
      · replace h := h.1 c3
        refine wp_iconst (v := 1) dX11_isName_46 rfl ?_
        refine wp_goto (tgt := 51) dX11_isName_47 (by decide) ?_
        exact wn_zret dX11_isName_51 rfl (Or.inr rfl) h
      · replace h := h.2 c3
        refine wp_iload_n 1 dX11_isName_40 rfl rfl ?_
        refine wp_bipush (v := 105) dX11_isName_41 rfl ?_
        have K5 : Wp G m_X11_isName d 0 0 0 0 51 [(0, .int x0), (1, .int x1)] [.int (if x1 = 105 then 1 else 0)] X M (fun X2 M2 v => X2 = X ∧ ∃ x, v = some (.int x) ∧ Q M2 x) := by
          exact wn_zret dX11_isName_51 rfl (ite_01 _) h
        refine wp_icmp_ne (tgt := 50) dX11_isName_43 (by decide) (fun c4 => ?_) (fun c4 => ?_)
        · refine wp_iconst (v := 0) dX11_isName_50 rfl ?_
          rw [if_neg c4] at K5
          exact K5
        · refine wp_iconst (v := 1) dX11_isName_46 rfl ?_
          refine wp_goto (tgt := 51) dX11_isName_47 (by decide) ?_
          rw [if_pos c4] at K5
          exact K5
  by_cases c6 : x0 = 7
  · replace h := h.2.1 c6
    refine wp_lkup (tgt := 52) (off := 51) dX11_isName_1 (by decide) (by rw [c6]; decide) (by decide) ?_
    refine wp_iload_n 1 dX11_isName_52 rfl rfl ?_
    refine wp_bipush (v := 104) dX11_isName_53 rfl ?_
    refine wp_icmp_eq (tgt := 64) dX11_isName_55 (by decide) (fun c7 => ?_) (fun c7 => ?_)
    · replace h := h.1 c7
      refine wp_iconst (v := 1) dX11_isName_64 rfl ?_
      refine wp_goto (tgt := 69) dX11_isName_65 (by decide) ?_
      exact wn_zret dX11_isName_69 rfl (Or.inr rfl) h
    · replace h := h.2 c7
      refine wp_iload_n 1 dX11_isName_58 rfl rfl ?_
      refine wp_bipush (v := 99) dX11_isName_59 rfl ?_
      have K9 : Wp G m_X11_isName d 0 0 0 0 69 [(0, .int x0), (1, .int x1)] [.int (if x1 = 99 then 1 else 0)] X M (fun X2 M2 v => X2 = X ∧ ∃ x, v = some (.int x) ∧ Q M2 x) := by
        exact wn_zret dX11_isName_69 rfl (ite_01 _) h
      refine wp_icmp_ne (tgt := 68) dX11_isName_61 (by decide) (fun c8 => ?_) (fun c8 => ?_)
      · refine wp_iconst (v := 0) dX11_isName_68 rfl ?_
        rw [if_neg c8] at K9
        exact K9
      · refine wp_iconst (v := 1) dX11_isName_64 rfl ?_
        refine wp_goto (tgt := 69) dX11_isName_65 (by decide) ?_
        rw [if_pos c8] at K9
        exact K9
  replace h := h.2.2 c1 c6
  have ec1 := ne_ti (z := 6) c1 rfl
  have ec6 := ne_ti (z := 7) c6 rfl
  refine wp_lkup (tgt := 70) (off := 69) dX11_isName_1 (by decide) (by simp [Op.lookupswitch.offset, Ne.symm ec1, ec1, Ne.symm ec6, ec6]) (by decide) ?_
  refine wp_iload_n 1 dX11_isName_70 rfl rfl ?_
  refine wp_bipush (v := 104) dX11_isName_71 rfl ?_
  refine wp_icmp_eq (tgt := 94) dX11_isName_73 (by decide) (fun c10 => ?_) (fun c10 => ?_)
  · replace h := h.1 c10
    refine wp_iconst (v := 1) dX11_isName_94 rfl ?_
    refine wp_goto (tgt := 99) dX11_isName_95 (by decide) ?_
    exact wn_zret dX11_isName_99 rfl (Or.inr rfl) h
  · replace h := h.2 c10
    refine wp_iload_n 1 dX11_isName_76 rfl rfl ?_
    refine wp_bipush (v := 116) dX11_isName_77 rfl ?_
    refine wp_icmp_eq (tgt := 94) dX11_isName_79 (by decide) (fun c11 => ?_) (fun c11 => ?_)
    · replace h := h.1 c11
      refine wp_iconst (v := 1) dX11_isName_94 rfl ?_
      refine wp_goto (tgt := 99) dX11_isName_95 (by decide) ?_
      exact wn_zret dX11_isName_99 rfl (Or.inr rfl) h
    · replace h := h.2 c11
      refine wp_iload_n 1 dX11_isName_82 rfl rfl ?_
      refine wp_bipush (v := 98) dX11_isName_83 rfl ?_
      refine wp_icmp_eq (tgt := 94) dX11_isName_85 (by decide) (fun c12 => ?_) (fun c12 => ?_)
      · replace h := h.1 c12
        refine wp_iconst (v := 1) dX11_isName_94 rfl ?_
        refine wp_goto (tgt := 99) dX11_isName_95 (by decide) ?_
        exact wn_zret dX11_isName_99 rfl (Or.inr rfl) h
      · replace h := h.2 c12
        refine wp_iload_n 1 dX11_isName_88 rfl rfl ?_
        refine wp_bipush (v := 115) dX11_isName_89 rfl ?_
        have K14 : Wp G m_X11_isName d 0 0 0 0 99 [(0, .int x0), (1, .int x1)] [.int (if x1 = 115 then 1 else 0)] X M (fun X2 M2 v => X2 = X ∧ ∃ x, v = some (.int x) ∧ Q M2 x) := by
          exact wn_zret dX11_isName_99 rfl (ite_01 _) h
        refine wp_icmp_ne (tgt := 98) dX11_isName_91 (by decide) (fun c13 => ?_) (fun c13 => ?_)
        · refine wp_iconst (v := 0) dX11_isName_98 rfl ?_
          rw [if_neg c13] at K14
          exact K14
        · refine wp_iconst (v := 1) dX11_isName_94 rfl ?_
          refine wp_goto (tgt := 99) dX11_isName_95 (by decide) ?_
          rw [if_pos c13] at K14
          exact K14
theorem cp_X11_isName (G : Gl) (d : Nat) (X : Sh) (M : Mm) (key c : Int32) : Cn G m_X11_isName d [.int key, .int c] X M (fun M2 x => M2 = M ∧ x = (if p_isName key c then 1 else 0)) := by
  refine Cn.of (by decide) (Nat.le_of_ble_eq_true rfl) ?_
  refine bX11_isName_0 ?_
  by_cases h6 : key = 6 <;> by_cases h7 : key = 7 <;> by_cases h1 : c = 104 <;> by_cases h2 : c = 116 <;> by_cases h3 : c = 98 <;> simp_all [p_isName]
theorem bX11_isSign_0 {G : Gl} {d : Nat} {X : Sh} {M : Mm} {Q : Mm → Int32 → Prop} {a : Nat} {x1 : Int32} (hS : Sh10 X a) (h : Q M (if (((mI M a 22) = 3) ∧ ((mI M a 24) = x1)) then 1 else 0)) : Wn G m_X11_isSign d 0 [(0, .ref a), (1, .int x1)] [] X M Q := by
  refine wp_aload_n 0 dX11_isSign_0 rfl rfl ?_
  refine wp_getI dX11_isSign_1 fl_RX11_233 rfl (sh10_K hS) ?_
  refine wp_iconst (v := 3) dX11_isSign_4 rfl ?_
  have K3 : Wp G m_X11_isSign d 0 0 0 0 21 [(0, .ref a), (1, .int x1)] [.int (if (((mI M a 22) = 3) ∧ ((mI M a 24) = x1)) then 1 else 0)] X M (fun X2 M2 v => X2 = X ∧ ∃ x, v = some (.int x) ∧ Q M2 x) := by
    exact wn_zret dX11_isSign_21 rfl (ite_01 _) h
  refine wp_icmp_ne (tgt := 20) dX11_isSign_5 (by decide) (fun c1 => ?_) (fun c1 => ?_)
  · refine wp_iconst (v := 0) dX11_isSign_20 rfl ?_
    rw [if_neg (fun q => c1 q.1)] at K3
    exact K3
  · refine wp_aload_n 0 dX11_isSign_8 rfl rfl ?_
    refine wp_getI dX11_isSign_9 fl_RX11_242 rfl (sh10_K hS) ?_
    refine wp_iload_n 1 dX11_isSign_12 rfl rfl ?_
    refine wp_icmp_ne (tgt := 20) dX11_isSign_13 (by decide) (fun c2 => ?_) (fun c2 => ?_)
    · refine wp_iconst (v := 0) dX11_isSign_20 rfl ?_
      rw [if_neg (fun q => c2 q.2)] at K3
      exact K3
    · refine wp_iconst (v := 1) dX11_isSign_16 rfl ?_
      refine wp_goto (tgt := 21) dX11_isSign_17 (by decide) ?_
      rw [if_pos ⟨c1, c2⟩] at K3
      exact K3
theorem cp_X11_isSign (G : Gl) (d : Nat) (X : Sh) (M : Mm) (a : Nat) (c : Int32) (hS : Sh10 X a) : Cn G m_X11_isSign d [.ref a, .int c] X M (fun M2 x => M2 = M ∧ x = (if mI M a 22 = 3 ∧ mI M a 24 = c then 1 else 0)) := by
  refine Cn.of (by decide) (Nat.le_of_ble_eq_true rfl) ?_
  refine bX11_isSign_0 hS ?_
  by_cases h6 : mI M a 22 = 3 <;> simp_all
theorem bX9_joined_0 {G : Gl} {d : Nat} {X : Sh} {M : Mm} {Q : Mm → Int32 → Prop} {x0 : Int32} {x1 : Int32} {x2 : Int32}  (h : ((x0 = 38 → Q M (if ((¬ (x1 = 0)) ∧ (¬ (x2 = 0))) then 1 else 0)) ∧ (x0 = 42 → Q M (x1 * x2)) ∧ (x0 = 43 → Q M (x1 + x2)) ∧ (x0 = 45 → Q M (x1 - x2)) ∧ (x0 = 60 → Q M (if ¬ (x2 ≤ x1) then 1 else 0)) ∧ (x0 = 61 → Q M (if x1 = x2 then 1 else 0)) ∧ (x0 = 62 → Q M (if ¬ (x1 ≤ x2) then 1 else 0)) ∧ (x0 = 124 → ((¬ (x1 = 0) → Q M 1) ∧ (x1 = 0 → Q M (if ¬ (x2 = 0) then 1 else 0)))) ∧ (x0 ≠ 38 → x0 ≠ 42 → x0 ≠ 43 → x0 ≠ 45 → x0 ≠ 60 → x0 ≠ 61 → x0 ≠ 62 → x0 ≠ 124 → ((¬ (x2 = 0) → (¬ (x2 = 0) ∧ Q M (x1 / x2))) ∧ (x2 = 0 → Q M 0))))) : Wn G m_X9_joined d 0 [(0, .int x0), (1, .int x1), (2, .int x2)] [] X M Q := by
  refine wp_iload_n 0 dX9_joined_0 rfl rfl ?_
  by_cases c1 : x0 = 38
  · replace h := h.1 c1
    refine wp_lkup (tgt := 90) (off := 89) dX9_joined_1 (by decide) (by rw [c1]; decide) (by decide) ?_
    refine wp_iload_n 1 dX9_joined_90 rfl rfl ?_
    have K4 : Wp G m_X9_joined d 0 0 0 0 103 [(0, .int x0), (1, .int x1), (2, .int x2)] [.int (if ((¬ (x1 = 0)) ∧ (¬ (x2 = 0))) then 1 else 0)] X M (fun X2 M2 v => X2 = X ∧ ∃ x, v = some (.int x) ∧ Q M2 x) := by
      exact wn_iret dX9_joined_103 rfl h
    refine wp_if_eq (tgt := 102) dX9_joined_91 (by decide) (fun c2 => ?_) (fun c2 => ?_)
    · refine wp_iconst (v := 0) dX9_joined_102 rfl ?_
      rw [if_neg (fun q => (fun q => q c2) q.1)] at K4
      exact K4
    · refine wp_iload_n 2 dX9_joined_94 rfl rfl ?_
      refine wp_if_eq (tgt := 102) dX9_joined_95 (by decide) (fun c3 => ?_) (fun c3 => ?_)
      · refine wp_iconst (v := 0) dX9_joined_102 rfl ?_
        rw [if_neg (fun q => (fun q => q c3) q.2)] at K4
        exact K4
      · refine wp_iconst (v := 1) dX9_joined_98 rfl ?_
        refine wp_goto (tgt := 103) dX9_joined_99 (by decide) ?_
        rw [if_pos ⟨c2, c3⟩] at K4
        exact K4
  by_cases c5 : x0 = 42
  · replace h := h.2.1 c5
    refine wp_lkup (tgt := 145) (off := 144) dX9_joined_1 (by decide) (by rw [c5]; decide) (by decide) ?_
    refine wp_iload_n 1 dX9_joined_145 rfl rfl ?_
    refine wp_iload_n 2 dX9_joined_146 rfl rfl ?_
    refine wp_imul dX9_joined_147 ?_
    exact wn_iret dX9_joined_148 rfl h
  by_cases c6 : x0 = 43
  · replace h := h.2.2.1 c6
    refine wp_lkup (tgt := 137) (off := 136) dX9_joined_1 (by decide) (by rw [c6]; decide) (by decide) ?_
    refine wp_iload_n 1 dX9_joined_137 rfl rfl ?_
    refine wp_iload_n 2 dX9_joined_138 rfl rfl ?_
    refine wp_iadd dX9_joined_139 ?_
    exact wn_iret dX9_joined_140 rfl h
  by_cases c7 : x0 = 45
  · replace h := h.2.2.2.1 c7
    refine wp_lkup (tgt := 141) (off := 140) dX9_joined_1 (by decide) (by rw [c7]; decide) (by decide) ?_
    refine wp_iload_n 1 dX9_joined_141 rfl rfl ?_
    refine wp_iload_n 2 dX9_joined_142 rfl rfl ?_
    refine wp_isub dX9_joined_143 ?_
    exact wn_iret dX9_joined_144 rfl h
  by_cases c8 : x0 = 60
  · replace h := h.2.2.2.2.1 c8
    refine wp_lkup (tgt := 104) (off := 103) dX9_joined_1 (by decide) (by rw [c8]; decide) (by decide) ?_
    refine wp_iload_n 1 dX9_joined_104 rfl rfl ?_
    refine wp_iload_n 2 dX9_joined_105 rfl rfl ?_
    have K10 : Wp G m_X9_joined d 0 0 0 0 114 [(0, .int x0), (1, .int x1), (2, .int x2)] [.int (if ¬ (x2 ≤ x1) then 1 else 0)] X M (fun X2 M2 v => X2 = X ∧ ∃ x, v = some (.int x) ∧ Q M2 x) := by
      exact wn_iret dX9_joined_114 rfl h
    refine wp_icmp_ge (tgt := 113) dX9_joined_106 (by decide) (fun c9 => ?_) (fun c9 => ?_)
    · refine wp_iconst (v := 0) dX9_joined_113 rfl ?_
      rw [if_neg (fun q => q c9)] at K10
      exact K10
    · refine wp_iconst (v := 1) dX9_joined_109 rfl ?_
      refine wp_goto (tgt := 114) dX9_joined_110 (by decide) ?_
      rw [if_pos c9] at K10
      exact K10
  by_cases c11 : x0 = 61
  · replace h := h.2.2.2.2.2.1 c11
    refine wp_lkup (tgt := 115) (off := 114) dX9_joined_1 (by decide) (by rw [c11]; decide) (by decide) ?_
    refine wp_iload_n 1 dX9_joined_115 rfl rfl ?_
    refine wp_iload_n 2 dX9_joined_116 rfl rfl ?_
    have K13 : Wp G m_X9_joined d 0 0 0 0 125 [(0, .int x0), (1, .int x1), (2, .int x2)] [.int (if x1 = x2 then 1 else 0)] X M (fun X2 M2 v => X2 = X ∧ ∃ x, v = some (.int x) ∧ Q M2 x) := by
      exact wn_iret dX9_joined_125 rfl h
    refine wp_icmp_ne (tgt := 124) dX9_joined_117 (by decide) (fun c12 => ?_) (fun c12 => ?_)
    · refine wp_iconst (v := 0) dX9_joined_124 rfl ?_
      rw [if_neg c12] at K13
      exact K13
    · refine wp_iconst (v := 1) dX9_joined_120 rfl ?_
      refine wp_goto (tgt := 125) dX9_joined_121 (by decide) ?_
      rw [if_pos c12] at K13
      exact K13
  by_cases c14 : x0 = 62
  · replace h := h.2.2.2.2.2.2.1 c14
    refine wp_lkup (tgt := 126) (off := 125) dX9_joined_1 (by decide) (by rw [c14]; decide) (by decide) ?_
    refine wp_iload_n 1 dX9_joined_126 rfl rfl ?_
    refine wp_iload_n 2 dX9_joined_127 rfl rfl ?_
    have K16 : Wp G m_X9_joined d 0 0 0 0 136 [(0, .int x0), (1, .int x1), (2, .int x2)] [.int (if ¬ (x1 ≤ x2) then 1 else 0)] X M (fun X2 M2 v => X2 = X ∧ ∃ x, v = some (.int x) ∧ Q M2 x) := by
      exact wn_iret dX9_joined_136 rfl h
    refine wp_icmp_le (tgt := 135) dX9_joined_128 (by decide) (fun c15 => ?_) (fun c15 => ?_)
    · refine wp_iconst (v := 0) dX9_joined_135 rfl ?_
      rw [if_neg (fun q => q c15)] at K16
      exact K16
    · refine wp_iconst (v := 1) dX9_joined_131 rfl ?_
      refine wp_goto (tgt := 136) dX9_joined_132 (by decide) ?_
      rw [if_pos c15] at K16
      exact K16
  by_cases c17 : x0 = 124
  · replace h := h.2.2.2.2.2.2.2.1 c17
    refine wp_lkup (tgt := 76) (off := 75) dX9_joined_1 (by decide) (by rw [c17]; decide) (by decide) ?_
    refine wp_iload_n 1 dX9_joined_76 rfl rfl ?_
    refine wp_if_ne (tgt := 84) dX9_joined_77 (by decide) (fun c18 => ?_) (fun c18 => ?_)
    · replace h := h.1 c18
      refine wp_iconst (v := 1) dX9_joined_84 rfl ?_
      refine wp_goto (tgt := 89) dX9_joined_85 (by decide) ?_
      exact wn_iret dX9_joined_89 rfl h
    · replace h := h.2 c18
      refine wp_iload_n 2 dX9_joined_80 rfl rfl ?_
      have K20 : Wp G m_X9_joined d 0 0 0 0 89 [(0, .int x0), (1, .int x1), (2, .int x2)] [.int (if ¬ (x2 = 0) then 1 else 0)] X M (fun X2 M2 v => X2 = X ∧ ∃ x, v = some (.int x) ∧ Q M2 x) := by
        exact wn_iret dX9_joined_89 rfl h
      refine wp_if_eq (tgt := 88) dX9_joined_81 (by decide) (fun c19 => ?_) (fun c19 => ?_)
      · refine wp_iconst (v := 0) dX9_joined_88 rfl ?_
        rw [if_neg (fun q => q c19)] at K20
        exact K20
      · refine wp_iconst (v := 1) dX9_joined_84 rfl ?_
        refine wp_goto (tgt := 89) dX9_joined_85 (by decide) ?_
        rw [if_pos c19] at K20
        exact K20
  replace h := h.2.2.2.2.2.2.2.2 c1 c5 c6 c7 c8 c11 c14 c17
  have ec1 := ne_ti (z := 38) c1 rfl
  have ec5 := ne_ti (z := 42) c5 rfl
  have ec6 := ne_ti (z := 43) c6 rfl
  have ec7 := ne_ti (z := 45) c7 rfl
  have ec8 := ne_ti (z := 60) c8 rfl
  have ec11 := ne_ti (z := 61) c11 rfl
  have ec14 := ne_ti (z := 62) c14 rfl
  have ec17 := ne_ti (z := 124) c17 rfl
  refine wp_lkup (tgt := 149) (off := 148) dX9_joined_1 (by decide) (by simp [Op.lookupswitch.offset, Ne.symm ec1, ec1, Ne.symm ec5, ec5, Ne.symm ec6, ec6, Ne.symm ec7, ec7, Ne.symm ec8, ec8, Ne.symm ec11, ec11, Ne.symm ec14, ec14, Ne.symm ec17, ec17]) (by decide) ?_
  refine wp_iload_n 2 dX9_joined_149 rfl rfl ?_
  refine wp_if_ne (tgt := 157) dX9_joined_150 (by decide) (fun c21 => ?_) (fun c21 => ?_)
  · replace h := h.1 c21
    refine wp_iload_n 1 dX9_joined_157 rfl rfl ?_
    refine wp_iload_n 2 dX9_joined_158 rfl rfl ?_
    obtain ⟨o22, h⟩ := h
    refine wp_idiv dX9_joined_159 o22 ?_
    exact wn_iret dX9_joined_160 rfl h
  · replace h := h.2 c21
    refine wp_iconst (v := 0) dX9_joined_153 rfl ?_
    refine wp_goto (tgt := 160) dX9_joined_154 (by decide) ?_
    exact wn_iret dX9_joined_160 rfl h
theorem cp_X9_joined (G : Gl) (d : Nat) (X : Sh) (M : Mm) (c u w : Int32) : Cn G m_X9_joined d [.int c, .int u, .int w] X M (fun M2 x => M2 = M ∧ x = f_join c u w) := by
  refine Cn.of (by decide) (Nat.le_of_ble_eq_true rfl) ?_
  refine bX9_joined_0 ⟨fun h => ⟨rfl, ?_⟩, fun h => ⟨rfl, ?_⟩, fun h => ⟨rfl, ?_⟩, fun h => ⟨rfl, ?_⟩, fun h => ⟨rfl, ?_⟩, fun h => ⟨rfl, ?_⟩, fun h => ⟨rfl, ?_⟩, fun h => ?_, fun h1 h2 h3 h4 h5 h6 h7 h8 => ?_⟩
  · simp [f_join, h]
  · simp [f_join, h]
  · simp [f_join, h]
  · simp [f_join, h]
  · simp [f_join, h, i_nle]
  · simp [f_join, h]
  · simp [f_join, h, i_nle]
  · by_cases hx : u = 0 <;> simp_all [f_join]
  · by_cases hx : w = 0 <;> simp_all [f_join]
theorem bX11_joined_0 {G : Gl} {d : Nat} {X : Sh} {M : Mm} {Q : Mm → Int32 → Prop} {x0 : Int32} {x1 : Int32} {x2 : Int32}  (h : ((x0 = 38 → Q M (if ((¬ (x1 = 0)) ∧ (¬ (x2 = 0))) then 1 else 0)) ∧ (x0 = 42 → Q M (x1 * x2)) ∧ (x0 = 43 → Q M (x1 + x2)) ∧ (x0 = 45 → Q M (x1 - x2)) ∧ (x0 = 47 → ((¬ (x2 = 0) → ((¬ (x2 = (-1)) → (¬ (x2 = 0) ∧ Q M (x1 / x2))) ∧ (x2 = (-1) → Q M (-x1)))) ∧ (x2 = 0 → Q M 0))) ∧ (x0 = 60 → Q M (if ¬ (x2 ≤ x1) then 1 else 0)) ∧ (x0 = 61 → Q M (if x1 = x2 then 1 else 0)) ∧ (x0 = 62 → Q M (if ¬ (x1 ≤ x2) then 1 else 0)) ∧ (x0 ≠ 38 → x0 ≠ 42 → x0 ≠ 43 → x0 ≠ 45 → x0 ≠ 47 → x0 ≠ 60 → x0 ≠ 61 → x0 ≠ 62 → ((¬ (x1 = 0) → Q M 1) ∧ (x1 = 0 → Q M (if ¬ (x2 = 0) then 1 else 0)))))) : Wn G m_X11_joined d 0 [(0, .int x0), (1, .int x1), (2, .int x2)] [] X M Q := by
  refine wp_iload_n 0 dX11_joined_0 rfl rfl ?_
  by_cases c1 : x0 = 38
  · replace h := h.1 c1
    refine wp_tblIn (tgt := 183) (off := 182) dX11_joined_1 (by rw [c1]; decide) (by rw [c1]; decide) (by rw [c1]; rfl) (by decide) ?_
    refine wp_iload_n 1 dX11_joined_183 rfl rfl ?_
    have K4 : Wp G m_X11_joined d 0 0 0 0 196 [(0, .int x0), (1, .int x1), (2, .int x2)] [.int (if ((¬ (x1 = 0)) ∧ (¬ (x2 = 0))) then 1 else 0)] X M (fun X2 M2 v => X2 = X ∧ ∃ x, v = some (.int x) ∧ Q M2 x) := by
      exact wn_iret dX11_joined_196 rfl h
    refine wp_if_eq (tgt := 195) dX11_joined_184 (by decide) (fun c2 => ?_) (fun c2 => ?_)
    · refine wp_iconst (v := 0) dX11_joined_195 rfl ?_
      rw [if_neg (fun q => (fun q => q c2) q.1)] at K4
      exact K4
    · refine wp_iload_n 2 dX11_joined_187 rfl rfl ?_
      refine wp_if_eq (tgt := 195) dX11_joined_188 (by decide) (fun c3 => ?_) (fun c3 => ?_)
      · refine wp_iconst (v := 0) dX11_joined_195 rfl ?_
        rw [if_neg (fun q => (fun q => q c3) q.2)] at K4
        exact K4
      · refine wp_iconst (v := 1) dX11_joined_191 rfl ?_
        refine wp_goto (tgt := 196) dX11_joined_192 (by decide) ?_
        rw [if_pos ⟨c2, c3⟩] at K4
        exact K4
  by_cases c5 : x0 = 42
  · replace h := h.2.1 c5
    refine wp_tblIn (tgt := 124) (off := 123) dX11_joined_1 (by rw [c5]; decide) (by rw [c5]; decide) (by rw [c5]; rfl) (by decide) ?_
    refine wp_iload_n 1 dX11_joined_124 rfl rfl ?_
    refine wp_iload_n 2 dX11_joined_125 rfl rfl ?_
    refine wp_imul dX11_joined_126 ?_
    exact wn_iret dX11_joined_127 rfl h
  by_cases c6 : x0 = 43
  · replace h := h.2.2.1 c6
    refine wp_tblIn (tgt := 116) (off := 115) dX11_joined_1 (by rw [c6]; decide) (by rw [c6]; decide) (by rw [c6]; rfl) (by decide) ?_
    refine wp_iload_n 1 dX11_joined_116 rfl rfl ?_
    refine wp_iload_n 2 dX11_joined_117 rfl rfl ?_
    refine wp_iadd dX11_joined_118 ?_
    exact wn_iret dX11_joined_119 rfl h
  by_cases c7 : x0 = 45
  · replace h := h.2.2.2.1 c7
    refine wp_tblIn (tgt := 120) (off := 119) dX11_joined_1 (by rw [c7]; decide) (by rw [c7]; decide) (by rw [c7]; rfl) (by decide) ?_
    refine wp_iload_n 1 dX11_joined_120 rfl rfl ?_
    refine wp_iload_n 2 dX11_joined_121 rfl rfl ?_
    refine wp_isub dX11_joined_122 ?_
    exact wn_iret dX11_joined_123 rfl h
  by_cases c8 : x0 = 47
  · replace h := h.2.2.2.2.1 c8
    refine wp_tblIn (tgt := 128) (off := 127) dX11_joined_1 (by rw [c8]; decide) (by rw [c8]; decide) (by rw [c8]; rfl) (by decide) ?_
    refine wp_iload_n 2 dX11_joined_128 rfl rfl ?_
    refine wp_if_ne (tgt := 136) dX11_joined_129 (by decide) (fun c9 => ?_) (fun c9 => ?_)
    · replace h := h.1 c9
      refine wp_iload_n 2 dX11_joined_136 rfl rfl ?_
      refine wp_iconst (v := (-1)) dX11_joined_137 rfl ?_
      refine wp_icmp_ne (tgt := 146) dX11_joined_138 (by decide) (fun c10 => ?_) (fun c10 => ?_)
      · replace h := h.1 c10
        refine wp_iload_n 1 dX11_joined_146 rfl rfl ?_
        refine wp_iload_n 2 dX11_joined_147 rfl rfl ?_
        obtain ⟨o11, h⟩ := h
        refine wp_idiv dX11_joined_148 o11 ?_
        exact wn_iret dX11_joined_149 rfl h
      · replace h := h.2 c10
        refine wp_iload_n 1 dX11_joined_141 rfl rfl ?_
        refine wp_ineg dX11_joined_142 ?_
        refine wp_goto (tgt := 149) dX11_joined_143 (by decide) ?_
        exact wn_iret dX11_joined_149 rfl h
    · replace h := h.2 c9
      refine wp_iconst (v := 0) dX11_joined_132 rfl ?_
      refine wp_goto (tgt := 149) dX11_joined_133 (by decide) ?_
      exact wn_iret dX11_joined_149 rfl h
  by_cases c12 : x0 = 60
  · replace h := h.2.2.2.2.2.1 c12
    refine wp_tblIn (tgt := 150) (off := 149) dX11_joined_1 (by rw [c12]; decide) (by rw [c12]; decide) (by rw [c12]; rfl) (by decide) ?_
    refine wp_iload_n 1 dX11_joined_150 rfl rfl ?_
    refine wp_iload_n 2 dX11_joined_151 rfl rfl ?_
    have K14 : Wp G m_X11_joined d 0 0 0 0 160 [(0, .int x0), (1, .int x1), (2, .int x2)] [.int (if ¬ (x2 ≤ x1) then 1 else 0)] X M (fun X2 M2 v => X2 = X ∧ ∃ x, v = some (.int x) ∧ Q M2 x) := by
      exact wn_iret dX11_joined_160 rfl h
    refine wp_icmp_ge (tgt := 159) dX11_joined_152 (by decide) (fun c13 => ?_) (fun c13 => ?_)
    · refine wp_iconst (v := 0) dX11_joined_159 rfl ?_
      rw [if_neg (fun q => q c13)] at K14
      exact K14
    · refine wp_iconst (v := 1) dX11_joined_155 rfl ?_
      refine wp_goto (tgt := 160) dX11_joined_156 (by decide) ?_
      rw [if_pos c13] at K14
      exact K14
  by_cases c15 : x0 = 61
  · replace h := h.2.2.2.2.2.2.1 c15
    refine wp_tblIn (tgt := 172) (off := 171) dX11_joined_1 (by rw [c15]; decide) (by rw [c15]; decide) (by rw [c15]; rfl) (by decide) ?_
    refine wp_iload_n 1 dX11_joined_172 rfl rfl ?_
    refine wp_iload_n 2 dX11_joined_173 rfl rfl ?_
    have K17 : Wp G m_X11_joined d 0 0 0 0 182 [(0, .int x0), (1, .int x1), (2, .int x2)] [.int (if x1 = x2 then 1 else 0)] X M (fun X2 M2 v => X2 = X ∧ ∃ x, v = some (.int x) ∧ Q M2 x) := by
      exact wn_iret dX11_joined_182 rfl h
    refine wp_icmp_ne (tgt := 181) dX11_joined_174 (by decide) (fun c16 => ?_) (fun c16 => ?_)
    · refine wp_iconst (v := 0) dX11_joined_181 rfl ?_
      rw [if_neg c16] at K17
      exact K17
    · refine wp_iconst (v := 1) dX11_joined_177 rfl ?_
      refine wp_goto (tgt := 182) dX11_joined_178 (by decide) ?_
      rw [if_pos c16] at K17
      exact K17
  by_cases c18 : x0 = 62
  · replace h := h.2.2.2.2.2.2.2.1 c18
    refine wp_tblIn (tgt := 161) (off := 160) dX11_joined_1 (by rw [c18]; decide) (by rw [c18]; decide) (by rw [c18]; rfl) (by decide) ?_
    refine wp_iload_n 1 dX11_joined_161 rfl rfl ?_
    refine wp_iload_n 2 dX11_joined_162 rfl rfl ?_
    have K20 : Wp G m_X11_joined d 0 0 0 0 171 [(0, .int x0), (1, .int x1), (2, .int x2)] [.int (if ¬ (x1 ≤ x2) then 1 else 0)] X M (fun X2 M2 v => X2 = X ∧ ∃ x, v = some (.int x) ∧ Q M2 x) := by
      exact wn_iret dX11_joined_171 rfl h
    refine wp_icmp_le (tgt := 170) dX11_joined_163 (by decide) (fun c19 => ?_) (fun c19 => ?_)
    · refine wp_iconst (v := 0) dX11_joined_170 rfl ?_
      rw [if_neg (fun q => q c19)] at K20
      exact K20
    · refine wp_iconst (v := 1) dX11_joined_166 rfl ?_
      refine wp_goto (tgt := 171) dX11_joined_167 (by decide) ?_
      rw [if_pos c19] at K20
      exact K20
  replace h := h.2.2.2.2.2.2.2.2 c1 c5 c6 c7 c8 c12 c15 c18
  have ec1 := ne_ti (z := 38) c1 rfl
  have ec5 := ne_ti (z := 42) c5 rfl
  have ec6 := ne_ti (z := 43) c6 rfl
  have ec7 := ne_ti (z := 45) c7 rfl
  have ec8 := ne_ti (z := 47) c8 rfl
  have ec12 := ne_ti (z := 60) c12 rfl
  have ec15 := ne_ti (z := 61) c15 rfl
  have ec18 := ne_ti (z := 62) c18 rfl
  refine tbl_def (tgt := 197) dX11_joined_1 [38, 42, 43, 45, 47, 60, 61, 62] 25 (by decide) (by decide) (by decide) (List.forall_mem_cons.mpr ⟨ec1, List.forall_mem_cons.mpr ⟨ec5, List.forall_mem_cons.mpr ⟨ec6, List.forall_mem_cons.mpr ⟨ec7, List.forall_mem_cons.mpr ⟨ec8, List.forall_mem_cons.mpr ⟨ec12, List.forall_mem_cons.mpr ⟨ec15, List.forall_mem_cons.mpr ⟨ec18, fun _ h => absurd h List.not_mem_nil⟩⟩⟩⟩⟩⟩⟩⟩) ?_
  refine wp_iload_n 1 dX11_joined_197 rfl rfl ?_
  refine wp_if_ne (tgt := 205) dX11_joined_198 (by decide) (fun c21 => ?_) (fun c21 => ?_)
  · replace h := h.1 c21
    refine wp_iconst (v := 1) dX11_joined_205 rfl ?_
    refine wp_goto (tgt := 210) dX11_joined_206 (by decide) ?_
    exact wn_iret dX11_joined_210 rfl h
  · replace h := h.2 c21
    refine wp_iload_n 2 dX11_joined_201 rfl rfl ?_
    have K23 : Wp G m_X11_joined d 0 0 0 0 210 [(0, .int x0), (1, .int x1), (2, .int x2)] [.int (if ¬ (x2 = 0) then 1 else 0)] X M (fun X2 M2 v => X2 = X ∧ ∃ x, v = some (.int x) ∧ Q M2 x) := by
      exact wn_iret dX11_joined_210 rfl h
    refine wp_if_eq (tgt := 209) dX11_joined_202 (by decide) (fun c22 => ?_) (fun c22 => ?_)
    · refine wp_iconst (v := 0) dX11_joined_209 rfl ?_
      rw [if_neg (fun q => q c22)] at K23
      exact K23
    · refine wp_iconst (v := 1) dX11_joined_205 rfl ?_
      refine wp_goto (tgt := 210) dX11_joined_206 (by decide) ?_
      rw [if_pos c22] at K23
      exact K23
theorem cp_X11_joined (G : Gl) (d : Nat) (X : Sh) (M : Mm) (c u w : Int32) : Cn G m_X11_joined d [.int c, .int u, .int w] X M (fun M2 x => M2 = M ∧ x = g_join c u w) := by
  refine Cn.of (by decide) (Nat.le_of_ble_eq_true rfl) ?_
  refine bX11_joined_0 ⟨fun h => ⟨rfl, ?_⟩, fun h => ⟨rfl, ?_⟩, fun h => ⟨rfl, ?_⟩, fun h => ⟨rfl, ?_⟩, fun h => ?_, fun h => ⟨rfl, ?_⟩, fun h => ⟨rfl, ?_⟩, fun h => ⟨rfl, ?_⟩, fun h1 h2 h3 h4 h5 h6 h7 h8 => ?_⟩
  · simp [g_join, h]
  · simp [g_join, h]
  · simp [g_join, h]
  · simp [g_join, h]
  · by_cases hx : w = 0 <;> by_cases hy : w = -1 <;> simp_all [g_join]
  · simp [g_join, h, i_nle]
  · simp [g_join, h]
  · simp [g_join, h, i_nle]
  · by_cases hx : u = 0 <;> simp_all [g_join]
theorem bX8_rankOf_0 {G : Gl} {d : Nat} {X : Sh} {M : Mm} {Q : Mm → Int32 → Prop} {x0 : Int32}  (h : ((x0 = 38 → Q M 2) ∧ (x0 = 42 → Q M 5) ∧ (x0 = 43 → Q M 4) ∧ (x0 = 45 → Q M 4) ∧ (x0 = 47 → Q M 5) ∧ (x0 = 60 → Q M 3) ∧ (x0 = 61 → Q M 3) ∧ (x0 = 62 → Q M 3) ∧ (x0 = 124 → Q M 1) ∧ (x0 ≠ 38 → x0 ≠ 42 → x0 ≠ 43 → x0 ≠ 45 → x0 ≠ 47 → x0 ≠ 60 → x0 ≠ 61 → x0 ≠ 62 → x0 ≠ 124 → Q M 0))) : Wn G m_X8_rankOf d 0 [(0, .int x0)] [] X M Q := by
  refine wp_iload_n 0 dX8_rankOf_0 rfl rfl ?_
  by_cases c1 : x0 = 38
  · replace h := h.1 c1
    refine wp_lkup (tgt := 86) (off := 85) dX8_rankOf_1 (by decide) (by rw [c1]; decide) (by decide) ?_
    refine wp_iconst (v := 2) dX8_rankOf_86 rfl ?_
    exact wn_iret dX8_rankOf_87 rfl h
  by_cases c2 : x0 = 42
  · replace h := h.2.1 c2
    refine wp_lkup (tgt := 92) (off := 91) dX8_rankOf_1 (by decide) (by rw [c2]; decide) (by decide) ?_
    refine wp_iconst (v := 5) dX8_rankOf_92 rfl ?_
    exact wn_iret dX8_rankOf_93 rfl h
  by_cases c3 : x0 = 43
  · replace h := h.2.2.1 c3
    refine wp_lkup (tgt := 90) (off := 89) dX8_rankOf_1 (by decide) (by rw [c3]; decide) (by decide) ?_
    refine wp_iconst (v := 4) dX8_rankOf_90 rfl ?_
    exact wn_iret dX8_rankOf_91 rfl h
  by_cases c4 : x0 = 45
  · replace h := h.2.2.2.1 c4
    refine wp_lkup (tgt := 90) (off := 89) dX8_rankOf_1 (by decide) (by rw [c4]; decide) (by decide) ?_
    refine wp_iconst (v := 4) dX8_rankOf_90 rfl ?_
    exact wn_iret dX8_rankOf_91 rfl h
  by_cases c5 : x0 = 47
  · replace h := h.2.2.2.2.1 c5
    refine wp_lkup (tgt := 92) (off := 91) dX8_rankOf_1 (by decide) (by rw [c5]; decide) (by decide) ?_
    refine wp_iconst (v := 5) dX8_rankOf_92 rfl ?_
    exact wn_iret dX8_rankOf_93 rfl h
  by_cases c6 : x0 = 60
  · replace h := h.2.2.2.2.2.1 c6
    refine wp_lkup (tgt := 88) (off := 87) dX8_rankOf_1 (by decide) (by rw [c6]; decide) (by decide) ?_
    refine wp_iconst (v := 3) dX8_rankOf_88 rfl ?_
    exact wn_iret dX8_rankOf_89 rfl h
  by_cases c7 : x0 = 61
  · replace h := h.2.2.2.2.2.2.1 c7
    refine wp_lkup (tgt := 88) (off := 87) dX8_rankOf_1 (by decide) (by rw [c7]; decide) (by decide) ?_
    refine wp_iconst (v := 3) dX8_rankOf_88 rfl ?_
    exact wn_iret dX8_rankOf_89 rfl h
  by_cases c8 : x0 = 62
  · replace h := h.2.2.2.2.2.2.2.1 c8
    refine wp_lkup (tgt := 88) (off := 87) dX8_rankOf_1 (by decide) (by rw [c8]; decide) (by decide) ?_
    refine wp_iconst (v := 3) dX8_rankOf_88 rfl ?_
    exact wn_iret dX8_rankOf_89 rfl h
  by_cases c9 : x0 = 124
  · replace h := h.2.2.2.2.2.2.2.2.1 c9
    refine wp_lkup (tgt := 84) (off := 83) dX8_rankOf_1 (by decide) (by rw [c9]; decide) (by decide) ?_
    refine wp_iconst (v := 1) dX8_rankOf_84 rfl ?_
    exact wn_iret dX8_rankOf_85 rfl h
  replace h := h.2.2.2.2.2.2.2.2.2 c1 c2 c3 c4 c5 c6 c7 c8 c9
  have ec1 := ne_ti (z := 38) c1 rfl
  have ec2 := ne_ti (z := 42) c2 rfl
  have ec3 := ne_ti (z := 43) c3 rfl
  have ec4 := ne_ti (z := 45) c4 rfl
  have ec5 := ne_ti (z := 47) c5 rfl
  have ec6 := ne_ti (z := 60) c6 rfl
  have ec7 := ne_ti (z := 61) c7 rfl
  have ec8 := ne_ti (z := 62) c8 rfl
  have ec9 := ne_ti (z := 124) c9 rfl
  refine wp_lkup (tgt := 94) (off := 93) dX8_rankOf_1 (by decide) (by simp [Op.lookupswitch.offset, Ne.symm ec1, ec1, Ne.symm ec2, ec2, Ne.symm ec3, ec3, Ne.symm ec4, ec4, Ne.symm ec5, ec5, Ne.symm ec6, ec6, Ne.symm ec7, ec7, Ne.symm ec8, ec8, Ne.symm ec9, ec9]) (by decide) ?_
  refine wp_iconst (v := 0) dX8_rankOf_94 rfl ?_
  exact wn_iret dX8_rankOf_95 rfl h
theorem cp_X8_rankOf (G : Gl) (d : Nat) (X : Sh) (M : Mm) (c : Int32) : Cn G m_X8_rankOf d [.int c] X M (fun M2 x => M2 = M ∧ x = f_rank c) := by
  refine Cn.of (by decide) (Nat.le_of_ble_eq_true rfl) ?_
  refine bX8_rankOf_0 ?_
  refine ⟨?_, ?_, ?_, ?_, ?_, ?_, ?_, ?_, ?_, ?_⟩ <;> intros <;> simp_all [f_rank]
