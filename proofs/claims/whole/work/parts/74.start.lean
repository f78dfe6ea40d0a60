/-! the beginning: both objects new say the same -/
/-- what lies in the memory when both objects are new -/
def New2 (M : Mm) (b m : Nat) : Prop := (b + 266 ≤ m) ∧ (∀ c j, c ≠ b + 86 → c ≠ b + 172 → ¬ (j = 0 ∧ b + 232 ≤ c ∧ c ≤ b + 264) → c ≠ m + 1 → c ≠ m + 4 → mI M c j = 0) ∧ (∀ i, i < 5 → mI M (b + 245 + 4 * i) 0 = 0) ∧ (∀ k, k < 3 → mI M (b + 86) k = mI M (m + 1) (6 + k)) ∧ (mI M (m + 1) 6 = 60) ∧ (mI M (m + 1) 7 = 100) ∧ (∀ k, k < 6 ∨ 8 < k → mI M (m + 1) k = 0) ∧ (∀ i, i < 4 → mI M (b + 232 + 3 * i) 0 = -1) ∧ (∀ i, i < 4 → mI M (m + 4) i = -1) ∧ (∀ i, i < 4 → ∀ j, mI M (b + 233 + 3 * i) j = 0) ∧ (∀ i, i < 4 → ∀ j, mI M (b + 234 + 3 * i) j = 0) ∧ (∀ f, f = b + 9 ∨ f = b + 95 ∨ f = b + 173 → ∀ l, l < 24 → mR M (f + 1) l = some (f + 2 + 2 * l))
theorem New2.far {M : Mm} {b m : Nat} (h : New2 M b m) : b + 266 ≤ m := h.1
theorem New2.zero {M : Mm} {b m : Nat} (h : New2 M b m) : ∀ c j, c ≠ b + 86 → c ≠ b + 172 → ¬ (j = 0 ∧ b + 232 ≤ c ∧ c ≤ b + 264) → c ≠ m + 1 → c ≠ m + 4 → mI M c j = 0 := h.2.1
theorem New2.slot {M : Mm} {b m : Nat} (h : New2 M b m) : ∀ i, i < 5 → mI M (b + 245 + 4 * i) 0 = 0 := h.2.2.1
theorem New2.rule {M : Mm} {b m : Nat} (h : New2 M b m) : ∀ k, k < 3 → mI M (b + 86) k = mI M (m + 1) (6 + k) := h.2.2.2.1
theorem New2.r6 {M : Mm} {b m : Nat} (h : New2 M b m) : mI M (m + 1) 6 = 60 := h.2.2.2.2.1
theorem New2.r7 {M : Mm} {b m : Nat} (h : New2 M b m) : mI M (m + 1) 7 = 100 := h.2.2.2.2.2.1
theorem New2.row {M : Mm} {b m : Nat} (h : New2 M b m) : ∀ k, k < 6 ∨ 8 < k → mI M (m + 1) k = 0 := h.2.2.2.2.2.2.1
theorem New2.sheet {M : Mm} {b m : Nat} (h : New2 M b m) : ∀ i, i < 4 → mI M (b + 232 + 3 * i) 0 = -1 := h.2.2.2.2.2.2.2.1
theorem New2.sort {M : Mm} {b m : Nat} (h : New2 M b m) : ∀ i, i < 4 → mI M (m + 4) i = -1 := h.2.2.2.2.2.2.2.2.1
theorem New2.value {M : Mm} {b m : Nat} (h : New2 M b m) : ∀ i, i < 4 → ∀ j, mI M (b + 233 + 3 * i) j = 0 := h.2.2.2.2.2.2.2.2.2.1
theorem New2.lost {M : Mm} {b m : Nat} (h : New2 M b m) : ∀ i, i < 4 → ∀ j, mI M (b + 234 + 3 * i) j = 0 := h.2.2.2.2.2.2.2.2.2.2.1
theorem New2.layers {M : Mm} {b m : Nat} (h : New2 M b m) : ∀ f, f = b + 9 ∨ f = b + 95 ∨ f = b + 173 → ∀ l, l < 24 → mR M (f + 1) l = some (f + 2 + 2 * l) := h.2.2.2.2.2.2.2.2.2.2.2
theorem lpm_new {M : Mm} {f : Nat} (h : ∀ l, l < 24 → mR M (f + 1) l = some (f + 2 + 2 * l)) : LPm M f (fun l => f + 2 + 2 * l) := ⟨h, fun l hl => ⟨l, hl, rfl⟩, fun l j _ _ e => by
  have e : f + 2 + 2 * l = f + 2 + 2 * j := e
  omega⟩
theorem sim_start {M : Mm} {b m : Nat} (h : New2 M b m) : Sim M b m := by
  have far := h.far
  have z : ∀ c j, c < b + 86 ∨ (b + 86 < c ∧ c < b + 172) ∨ (b + 172 < c ∧ c < b + 232) ∨ b + 265 ≤ c → c ≠ m + 1 → c ≠ m + 4 → mI M c j = 0 := fun c j hc h1 h2 => h.zero c j (by omega) (by omega) (by omega) h1 h2
  have zj : ∀ c j, ¬ j = 0 → c ≠ b + 86 → c ≠ b + 172 → c ≠ m + 1 → c ≠ m + 4 → mI M c j = 0 := fun c j hj h1 h2 h3 h4 => h.zero c j h1 h2 (by omega) h3 h4
  refine ⟨⟨0, 0, 0, 0, 0, fun l => b + 9 + 2 + 2 * l, ⟨?_, ?_, ?_, ?_, ?_, ?_⟩⟩, ?_, ?_, ?_, ?_, ?_, ?_⟩
  · refine ⟨h.row 0 (by omega), by omega, h.row 1 (by omega), by omega, h.row 2 (by omega), by omega, h.row 3 (by omega), by omega, h.row 4 (by omega), by omega, fun b hb => absurd hb (by omega), fun l hl => absurd hl (by omega), fun l hl => absurd hl (by omega), fun k hk => absurd hk (by omega), fun i hi => absurd hi (by omega), 60, 100, by omega, ⟨by omega, 0, by omega, h.row 5 (by omega)⟩, by omega, h.r6, h.r7⟩
  · refine ⟨z _ _ (by omega) (by omega) (by omega), ?_, fun i hi => absurd hi (by omega), fun k hk => ?_⟩
    · rw [z _ _ (by omega) (by omega) (by omega), h.row 3 (by omega)]
    · rw [z _ _ (by omega) (by omega) (by omega), h.row _ (by omega)]
  · refine ⟨lpm_new (h.layers (b + 9) (Or.inl rfl)), ⟨?_, ?_, ?_, ?_, ?_, fun r hr => ?_⟩, fun l hl => absurd hl (by omega)⟩
    · rw [z _ _ (by omega) (by omega) (by omega), h.row 5 (by omega)]
    · rw [z _ _ (by omega) (by omega) (by omega), h.row 9 (by omega)]
    · rw [z _ _ (by omega) (by omega) (by omega), h.row 10 (by omega)]
    · rw [z _ _ (by omega) (by omega) (by omega), h.row 11 (by omega)]
    · rw [z _ _ (by omega) (by omega) (by omega)]
      rfl
    · rw [z _ _ (by omega) (by omega) (by omega)]
      rfl
  · exact ⟨z _ _ (by omega) (by omega) (by omega), fun t ht => absurd ht (by omega)⟩
  · exact ⟨z _ _ (by omega) (by omega) (by omega), fun i hi => absurd hi (by omega)⟩
  · exact fun k hk => h.rule k hk
  · refine ⟨?_, fun q => absurd (z _ _ (by omega) (by omega) (by omega)) q⟩
    rw [z _ _ (by omega) (by omega) (by omega), z _ _ (by omega) (by omega) (by omega)]
  · exact ⟨⟨_, lpm_new (h.layers (b + 95) (Or.inr (Or.inl rfl)))⟩, ⟨_, lpm_new (h.layers (b + 173) (Or.inr (Or.inr rfl)))⟩⟩
  · exact ⟨0, by omega, z _ _ (by omega) (by omega) (by omega), z _ _ (by omega) (by omega) (by omega), fun i hi => absurd hi (by omega)⟩
  · intro i hi
    refine ⟨?_, Or.inl (h.sort i hi), ⟨0, by omega, zj _ _ (by omega) (by omega) (by omega) (by omega) (by omega), z _ _ (by omega) (by omega) (by omega)⟩, fun j hj => Or.inr ⟨?_, ?_, ?_⟩⟩
    · rw [h.sheet i hi, h.sort i hi]
    · rw [z (m + 6) _ (by omega) (by omega) (by omega)]
      decide
    · exact h.lost i hi j
    · rw [z (m + 6) _ (by omega) (by omega) (by omega)]
      exact h.value i hi j
  · intro i hi
    have e7 : mI M (m + 7) i = 0 := z _ _ (by omega) (by omega) (by omega)
    refine ⟨by rw [e7, h.slot i hi], ⟨0, by omega, e7⟩, fun q => absurd (e7.symm.trans q) (by decide), fun q => absurd (e7.symm.trans q) (by decide), fun q => absurd (e7.symm.trans q) (by decide)⟩
  · exact ⟨0, by omega, z _ _ (by omega) (by omega) (by omega), z _ _ (by omega) (by omega) (by omega), fun i hi => absurd hi (by omega)⟩
