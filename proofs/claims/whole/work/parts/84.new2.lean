/-! both objects new: the memory is the beginning -/
theorem new2_of {M M2 M3 : Mm} {b m : Nat} (h : Mem10 M M2 b) (hm : m = b + 266) (hM : ∀ c j, c < b → mI M2 c j = 0) (e : M3 = sI (sI (sI (sI (sI (sI (sI M2 (m + 1) 6 60) (m + 1) 7 100) (m + 1) 8 60) (m + 4) 0 (-1)) (m + 4) 1 (-1)) (m + 4) 2 (-1)) (m + 4) 3 (-1)) : New2 M3 b m := by
  have off : ∀ c, c ≠ m + 1 → c ≠ m + 4 → mI M3 c = mI M2 c := fun c h1 h4 => by
    rw [e]
    simp only [mI_sI, up2_off _ _ _ h1, up2_off _ _ _ h4]
  have z : ∀ c j, c ≠ b + 86 → c ≠ b + 172 → ¬ (j = 0 ∧ b + 232 ≤ c ∧ c ≤ b + 264) → mI M2 c j = 0 := fun c j h1 h2 h3 => by
    by_cases q : b ≤ c
    · exact h.zero c j q h1 h2 h3
    · exact hM c j (by omega)
  have row : ∀ k, mI M3 (m + 1) k = up2 (up2 (up2 (mI M2) (m + 1) 6 60) (m + 1) 7 100) (m + 1) 8 60 (m + 1) k := fun k => by
    rw [e]
    simp only [mI_sI]
    rw [up2_off _ _ _ (by omega), up2_off _ _ _ (by omega), up2_off _ _ _ (by omega), up2_off _ _ _ (by omega)]
  have srt : ∀ k, mI M3 (m + 4) k = up2 (up2 (up2 (up2 (mI M2) (m + 4) 0 (-1)) (m + 4) 1 (-1)) (m + 4) 2 (-1)) (m + 4) 3 (-1) (m + 4) k := fun k => by
    rw [e]
    simp only [mI_sI]
    simp [up2]
  have r6 : mI M3 (m + 1) 6 = 60 := by rw [row, up2_k _ _ _ (by omega), up2_k _ _ _ (by omega), up2_same]
  have r7 : mI M3 (m + 1) 7 = 100 := by rw [row, up2_k _ _ _ (by omega), up2_same]
  have r8 : mI M3 (m + 1) 8 = 60 := by rw [row, up2_same]
  have zs : ∀ c j, ¬ j = 0 → c ≠ b + 86 → c ≠ b + 172 → mI M2 c j = 0 := fun c j hj h1 h2 => z c j h1 h2 (by omega)
  refine ⟨by omega, fun c j h1 h2 h3 h4 h5 => by rw [off c h4 h5]; exact z c j h1 h2 h3, fun i hi => by rw [off _ (by omega) (by omega)]; exact h.slot i hi, fun k hk => ?_, r6, r7, fun k hk => ?_, fun i hi => by rw [off _ (by omega) (by omega)]; exact h.sheet i hi, fun i hi => ?_, fun i hi j => ?_, fun i hi j => ?_, fun f hf l hl => ?_⟩
  · rw [off (b + 86) (by omega) (by omega)]
    match k, hk with
    | 0, _ => exact h.rule.1.trans r6.symm
    | 1, _ => exact h.rule.2.1.trans r7.symm
    | 2, _ => exact h.rule.2.2.trans r8.symm
  · rw [row, up2_k _ _ _ (by omega), up2_k _ _ _ (by omega), up2_k _ _ _ (by omega)]
    exact z _ _ (by omega) (by omega) (by omega)
  · rw [srt]
    match i, hi with
    | 0, _ => simp [up2]
    | 1, _ => simp [up2]
    | 2, _ => simp [up2]
    | 3, _ => simp [up2]
  · rw [off _ (by omega) (by omega)]
    exact h.value i hi j
  · rw [off _ (by omega) (by omega)]
    exact h.lost i hi j
  · have er : mR M3 = mR M2 := by
      rw [e]
      rfl
    rw [er]
    exact h.layers f hf l hl
