/-! the class's furnace: a charge comes, its layer slides -/
/-- the weights are Nats -/
def NWt (w : Nat → Int64) (W : Nat → Nat) : Prop := ∀ r, r < 5 → w r = lN (W r) ∧ W r ≤ 900000
theorem sumL_nat {w : Nat → Int64} {W : Nat → Nat} (h : NWt w W) : ∀ n, n ≤ 5 → s_sumL w n = lN (nsum W n)
  | 0, _ => rfl
  | n + 1, hn => by
    show s_sumL w n + w n = lN (nsum W n + W n)
    rw [sumL_nat h n (by omega), (h n (by omega)).1, lN_add]
theorem nsum_mono {f : Nat → Nat} : ∀ {m n : Nat}, n ≤ m → nsum f n ≤ nsum f m
  | 0, n, h => by
    have : n = 0 := by omega
    subst this
    exact Nat.le_refl _
  | m + 1, n, h => by
    by_cases e : n = m + 1
    · subst e
      exact Nat.le_refl _
    · have := nsum_mono (f := f) (m := m) (n := n) (by omega)
      show nsum f n ≤ nsum f m + f m
      omega
theorem nsum_big {w : Nat → Int64} {W : Nat → Nat} (h : NWt w W) : nsum W 5 ≤ 4500000 := by
  have h0 := (h 0 (by omega)).2
  have h1 := (h 1 (by omega)).2
  have h2 := (h 2 (by omega)).2
  have h3 := (h 3 (by omega)).2
  have h4 := (h 4 (by omega)).2
  show 0 + W 0 + W 1 + W 2 + W 3 + W 4 ≤ _
  omega
theorem base_nat {w : Nat → Int64} {W : Nat → Nat} {x r : Nat} (h : NWt w W) (hx : x ≤ 20000) (hA : 0 < nsum W 5) (hr : r < 5) : p_base (nI x) w (lN (nsum W 5)) r = nI (x * W r / nsum W 5) := by
  have h1 : x * W r ≤ 20000 * 900000 := Nat.mul_le_mul hx (h r hr).2
  have h2 := nsum_big h
  unfold p_base
  rw [nI_l (by omega), (h r hr).1, lN_mul, lN_div (by omega) hA (by omega), lN_i]
theorem left_nat {w : Nat → Int64} {W : Nat → Nat} {x : Nat} (h : NWt w W) (hx : x ≤ 20000) (hA : 0 < nsum W 5) : ∀ n, n ≤ 5 → p_left (nI x) w (lN (nsum W 5)) n = nI (x - nsum (fun r => x * W r / nsum W 5) n)
  | 0, _ => rfl
  | n + 1, hn => by
    have h1 := (parts_left (x := x) (W := W) rfl hA).1
    have h2 := nsum_mono (f := fun r => x * W r / nsum W 5) (m := 5) (n := n + 1) hn
    have h3 : nsum (fun r => x * W r / nsum W 5) (n + 1) = nsum (fun r => x * W r / nsum W 5) n + x * W n / nsum W 5 := rfl
    show p_left (nI x) w (lN (nsum W 5)) n - p_base (nI x) w (lN (nsum W 5)) n = _
    rw [left_nat h hx hA n (by omega), base_nat h hx hA (by omega), nI_subI _ _ (by omega), h3]
    congr 1
    omega
theorem lN_pos {A : Nat} (h : 0 < A) (h2 : A < 2147483648) : ¬ lN A ≤ 0 := fun q => by
  have := (lN_le (a := A) (b := 0) (by omega) (by omega)).mp q
  omega
theorem fair_nat {w : Nat → Int64} {W : Nat → Nat} {x : Nat} (h : NWt w W) (hx : x ≤ 20000) : FairW (nI x) w := by
  have h2 := nsum_big h
  have h3 := sumL_nat h 5 (Nat.le_refl _)
  unfold FairW
  rw [h3]
  by_cases hA : nsum W 5 = 0
  · left
    rw [hA]
    rfl
  · right
    have h4 := parts_left (x := x) (W := W) rfl (by omega)
    exact ⟨lN_pos (by omega) (by omega), _, by omega, left_nat h hx (by omega) 5 (Nat.le_refl _)⟩
theorem give_nat : ∀ (n : Nat) (p : Nat → Int32) (q : Nat → Int64) (ρ : Nat → Nat), (∀ r, r < 5 → p r = nI (ρ r)) → ∃ ρ2 : Nat → Nat, (∀ r, r < 5 → p_give p q n r = nI (ρ2 r)) ∧ nsum ρ2 5 = nsum ρ 5 + n
  | 0, p, q, ρ, h => ⟨ρ, h, rfl⟩
  | n + 1, p, q, ρ, h => by
    have hb := p_best_lt q 4
    have h1 : ∀ r, r < 5 → upd p (p_best q 5) (p (p_best q 5) + 1) r = nI ((fun r => if r = p_best q 5 then ρ (p_best q 5) + 1 else ρ r) r) := fun r hr => by
      show (if r = p_best q 5 then p (p_best q 5) + 1 else p r) = nI (if r = p_best q 5 then ρ (p_best q 5) + 1 else ρ r)
      by_cases e : r = p_best q 5
      · rw [if_pos e, if_pos e, h _ hb, nI_1]
      · rw [if_neg e, if_neg e, h r hr]
    obtain ⟨ρ2, h2, h3⟩ := give_nat n _ (vp_updL q (p_best q 5) (-1)) _ h1
    refine ⟨ρ2, h2, ?_⟩
    rw [h3]
    have := nsum_dec (f := fun r => if r = p_best q 5 then ρ (p_best q 5) + 1 else ρ r) (g := ρ) (x := 1) (i := p_best q 5) (if_pos rfl).symm (fun k hk => (if_neg hk).symm) (n := 5) hb
    omega
theorem parts_nat {w : Nat → Int64} {W : Nat → Nat} {x : Nat} (h : NWt w W) (hx : x ≤ 20000) (hA : 0 < nsum W 5) : ∃ ρ : Nat → Nat, (∀ r, r < 5 → s_parts (nI x) w r = nI (ρ r)) ∧ nsum ρ 5 = x := by
  have h2 := nsum_big h
  have h3 := sumL_nat h 5 (Nat.le_refl _)
  have h4 := parts_left (x := x) (W := W) rfl hA
  have h5 : ¬ s_sumL w 5 = 0 := fun q => by
    rw [h3] at q
    exact lN_pos hA (by omega) (by rw [q]; decide)
  unfold s_parts
  rw [if_neg h5, h3, left_nat h hx hA 5 (Nat.le_refl _), nI_clamp (by omega)]
  obtain ⟨ρ, h6, h7⟩ := give_nat (x - nsum (fun r => x * W r / nsum W 5) 5) (p_base (nI x) w (lN (nsum W 5))) (p_rest (nI x) w (lN (nsum W 5))) (fun r => x * W r / nsum W 5) (fun r hr => base_nat h hx hA hr)
  exact ⟨ρ, h6, by omega⟩
def dN (v : Nat) : Nat → Nat
  | 0 => v
  | n + 1 => dN v n / 10
theorem dN_le (v : Nat) : ∀ n, dN v n ≤ v
  | 0 => Nat.le_refl _
  | n + 1 => by
    have := dN_le v n
    show dN v n / 10 ≤ v
    omega
theorem dgL_nat {v : Nat} (hv : v ≤ 99999) : ∀ n, dgL (nI v) n = nI (dN v n)
  | 0 => rfl
  | n + 1 => by
    have := dN_le v n
    show dgL (nI v) n / nI 10 = nI (dN v n / 10)
    rw [dgL_nat hv n, nI_div (by omega) (by omega) (by omega)]
theorem dgW_nat {v r : Nat} (hv : v ≤ 99999) : dgW (nI v) r = nI (dN v (4 - r) % 10) := by
  have := dN_le v (4 - r)
  unfold dgW
  rw [dgL_nat hv, n_lit 10, nI_div (by omega) (by omega) (by omega), pk_mul, nI_subI _ _ (by omega)]
  congr 1
  omega
theorem digits_nw {v : Nat} (hv : v ≤ 99999) : NWt (fun r => (dgW (nI v) r).toInt64) (fun r => dN v (4 - r) % 10) := fun r hr => by
  refine ⟨?_, ?_⟩
  · show (dgW (nI v) r).toInt64 = _
    rw [dgW_nat hv, nI_l (by omega)]
  · show dN v (4 - r) % 10 ≤ _
    omega
theorem digits_pos {v : Nat} (h1 : 1 ≤ v) (hv : v ≤ 99999) : 0 < nsum (fun r => dN v (4 - r) % 10) 5 := by
  show 0 < 0 + v / 10 / 10 / 10 / 10 % 10 + v / 10 / 10 / 10 % 10 + v / 10 / 10 % 10 + v / 10 % 10 + v % 10
  omega
theorem n_bulk_le {k t : Nat} (h1 : 1 ≤ t) (ht : t ≤ 9999) : 1 ≤ n_bulk k t ∧ n_bulk k t ≤ 20000 := by
  unfold n_bulk
  split
  · omega
  · split <;> omega
/-- the flat row's words of bin b are within their ends -/
def WB (σ : Nat → Int32) (b : Nat) : Prop := ∃ k sh v s : Nat, k ≤ 5 ∧ sh ≤ 99 ∧ 1 ≤ v ∧ v ≤ 99999 ∧ s ≤ 9999 ∧ σ (20 + 5 * b) = nI k ∧ σ (21 + 5 * b) = nI sh ∧ σ (23 + 5 * b) = nI s ∧ σ (24 + 5 * b) = nI v
theorem sly_at {σ : Nat → Int32} {nl b k : Nat} {t : Int32} (hk : k < 60 + 10 * nl ∨ 70 + 10 * nl ≤ k) (h1 : k ≠ 23 + 5 * b) (h2 : k ≠ 1) : s_lay σ nl b t k = σ k := by
  unfold s_lay
  rw [if_neg (by omega), if_neg (by omega), if_neg (by omega), if_neg (by omega), if_neg (by omega), if_neg (by omega), if_neg h1, if_neg h2]
theorem sly_ring {σ : Nat → Int32} {nl b r : Nat} {t : Int32} (hr : r < 5) : s_lay σ nl b t (65 + 10 * nl + r) = s_parts (f_bulk (σ (20 + 5 * b)) t) (fun r => (dgW (σ (24 + 5 * b)) r).toInt64) r := by
  unfold s_lay
  rw [if_neg (by omega), if_neg (by omega), if_neg (by omega), if_neg (by omega), if_neg (by omega), if_pos (by omega), show 65 + 10 * nl + r - (65 + 10 * nl) = r by omega]
theorem sly_0 {σ : Nat → Int32} {nl b : Nat} {t : Int32} : s_lay σ nl b t (60 + 10 * nl) = nI b := if_pos rfl
theorem sly_1 {σ : Nat → Int32} {nl b : Nat} {t : Int32} : s_lay σ nl b t (61 + 10 * nl) = σ 5 := (if_neg (by omega)).trans (if_pos rfl)
theorem sly_2 {σ : Nat → Int32} {nl b : Nat} {t : Int32} : s_lay σ nl b t (62 + 10 * nl) = t := (if_neg (by omega)).trans ((if_neg (by omega)).trans (if_pos rfl))
theorem sly_3 {σ : Nat → Int32} {nl b : Nat} {t : Int32} : s_lay σ nl b t (63 + 10 * nl) = f_bulk (σ (20 + 5 * b)) t := (if_neg (by omega)).trans ((if_neg (by omega)).trans ((if_neg (by omega)).trans (if_pos rfl)))
theorem sly_4 {σ : Nat → Int32} {nl b : Nat} {t : Int32} : s_lay σ nl b t (64 + 10 * nl) = 0 := (if_neg (by omega)).trans ((if_neg (by omega)).trans ((if_neg (by omega)).trans ((if_neg (by omega)).trans (if_pos rfl))))
/-- a charge has come: the layer laid is in order, and the others are as they were -/
theorem FW.lays {σ : Nat → Int32} {nl b t : Nat} (h : FW σ nl) (hB : WB σ b) (hb : b < 6) (h1 : 1 ≤ t) (ht : t ≤ 9999) : FW (s_lay σ nl b (nI t)) (nl + 1) := by
  intro l hl
  by_cases e : l = nl
  · subst e
    obtain ⟨k, sh, v, s, hk, hsh, hv1, hv, hs, e0, e1, e3, e4⟩ := hB
    have h2 := n_bulk_le (k := k) h1 ht
    obtain ⟨ρ, h3, h4⟩ := parts_nat (digits_nw hv) h2.2 (digits_pos hv1 hv)
    refine ⟨b, k, sh, t, n_bulk k t, 0, ρ, hb, hk, hsh, ht, h2.1, h2.2, sly_0, ?_, ?_, sly_2, ?_, sly_4, fun r hr => ?_, by omega⟩
    · rw [sly_at (by omega) (by omega) (by omega), e0]
    · rw [sly_at (by omega) (by omega) (by omega), e1]
    · rw [sly_3, e0, f_bulk_n hk ht]
    · rw [sly_ring hr, e0, e4, f_bulk_n hk ht]
      exact h3 r hr
  · obtain ⟨b2, k, sh, t2, w, g, ρ, hb2, hk5, hsh, ht2, hw1, hw2, e0, ek, es, et, ew, eg, er, hs⟩ := h l (by omega)
    refine ⟨b2, k, sh, t2, w, g, ρ, hb2, hk5, hsh, ht2, hw1, hw2, ?_, ?_, ?_, ?_, ?_, ?_, fun r hr => ?_, hs⟩
    · rw [sly_at (by omega) (by omega) (by omega), e0]
    · rw [sly_at (by omega) (by omega) (by omega), ek]
    · rw [sly_at (by omega) (by omega) (by omega), es]
    · rw [sly_at (by omega) (by omega) (by omega), et]
    · rw [sly_at (by omega) (by omega) (by omega), ew]
    · rw [sly_at (by omega) (by omega) (by omega), eg]
    · rw [sly_at (by omega) (by omega) (by omega), er r hr]
theorem FR.lays {M M2 : Mm} {f b1 nl b t : Nat} {σ : Nat → Int32} {la : Nat → Nat} (h : FR M f σ nl la) (hnl : nl < 24) (hW : FW σ nl) (hB : WB σ b) (hb : b < 6) (ht : t ≤ 9999) (b_k : mI M (b1 + 1) b = σ (20 + 5 * b)) (b_s : mI M (b1 + 2) b = σ (21 + 5 * b)) (b_v : mI M (b1 + 5) b = σ (24 + 5 * b)) (hq : LayQ M f b1 (la nl) b nl (nI t) M2) : FR M2 f (s_lay σ nl b (nI t)) (nl + 1) la := by
  obtain ⟨hP, ⟨d0, d1, d2, d3, d5, d6⟩, hL⟩ := h
  obtain ⟨q0, q1, q2, q3, q4, q5, q6, q7, q8, q9, q10, q11, q12, q13, q14⟩ := hq
  rw [b_k] at q3 q4 q5 q6 q7 q8
  rw [b_s] at q4 q5 q6
  have an := hP.at hnl
  refine ⟨hP.mR q14, ⟨?_, ?_, ?_, ?_, q11, fun r hr => ?_⟩, fun l hl => ?_⟩
  · rw [q12 0 (by omega), sly_at (by omega) (by omega) (by omega), d0]
  · rw [q12 1 (by omega), sly_at (by omega) (by omega) (by omega), d1]
  · rw [q12 2 (by omega), sly_at (by omega) (by omega) (by omega), d2]
  · rw [q12 3 (by omega), sly_at (by omega) (by omega) (by omega), d3]
  · rw [q10 r hr, d6 r hr, b_k, b_v, ← sly_ring (nl := nl) hr]
    show _ = s_bulkIn (s_lay σ nl b (nI t)) r nl + s_lay σ nl b (nI t) (65 + 10 * nl + r)
    congr 1
    exact s_sum_cong (fun k hk => (sly_at (by omega) (by omega) (by omega)).symm)
  · by_cases e : l = nl
    · subst e
      obtain ⟨k, sh, v, s, hk, hsh, hv1, hv, hs, e0, e1, e3, e4⟩ := hB
      have am : ∀ c, s_amt (s_lay σ l b (nI t)) l c = g_amt (nI k) (nI sh) (nI t) c := fun c => by
        unfold s_amt
        rw [sly_0, nI_clamp (by omega), sly_2, sly_at (by omega) (by omega) (by omega), sly_at (by omega) (by omega) (by omega), e0, e1]
      unfold LD
      rw [sly_0, sly_1, sly_2, sly_3, sly_4, am, am, am, nI_clamp (by omega), sly_at (k := 20 + 5 * b) (by omega) (by omega) (by omega), Int32.sub_zero]
      rw [e0, e1] at q4 q5 q6
      refine ⟨q0, q1.trans d0, q2, q3, ?_, ?_, ?_, q7, q8, fun r hr => ?_⟩
      · rw [q4, fg_iron hk hsh ht]
        rfl
      · rw [q5, fg_acid hk hsh ht]
        rfl
      · rw [q6]
        rfl
      · rw [q9 r hr, b_k, b_v, sly_ring hr]
    · have ne := hP.ne (l := l) (j := nl) (by omega) hnl e
      have al := hP.at (l := l) (by omega)
      obtain ⟨b2, k, sh, t2, w, g, ρ, hb2, hk5, hsh, ht2, hw1, hw2, e0, _⟩ := hW l (by omega)
      exact LD.move (hL l (by omega)) e0 hb2 (sly_at (by omega) (by omega) (by omega)) (sly_at (by omega) (by omega) (by omega)) (fun k hk => sly_at (by omega) (by omega) (by omega)) (q13 _ (by omega) (by omega) (by omega) (by omega) (by omega) (by omega)) (q13 _ (by omega) (by omega) (by omega) (by omega) (by omega) (by omega))
/-! the slide -/
theorem iter_diff (sl : Int32) (c : Nat → Int32) : ∀ (n : Nat) (β ρ : Nat → Int32), (∀ r, r < 5 → β r = c r + ρ r) → ∀ r, r < 5 → (sl_iter sl n β ρ).1 r = c r + (sl_iter sl n β ρ).2 r
  | 0, β, ρ, h => h
  | n + 1, β, ρ, h => by
    cases hq : sl_next sl β ρ 4 with
    | none =>
      rw [sl_iter_none hq]
      exact h
    | some q =>
      rw [sl_iter_some hq]
      have hq4 := sl_next_lt 4 (by omega) q hq
      refine iter_diff sl c n _ _ (fun r hr => ?_)
      have h1 := sl_hi_lt β hq4
      have h2 := sl_lo_lt β hq4
      have ne : sl_hi β q ≠ sl_lo β q := by
        unfold sl_hi sl_lo
        split <;> omega
      show (if r = sl_lo β q then (if sl_lo β q = sl_hi β q then β (sl_hi β q) - 1 else β (sl_lo β q)) + 1 else if r = sl_hi β q then β (sl_hi β q) - 1 else β r) = c r + (if r = sl_lo β q then (if sl_lo β q = sl_hi β q then ρ (sl_hi β q) - 1 else ρ (sl_lo β q)) + 1 else if r = sl_hi β q then ρ (sl_hi β q) - 1 else ρ r)
      rw [if_neg (Ne.symm ne), if_neg (Ne.symm ne)]
      by_cases a1 : r = sl_lo β q
      · rw [if_pos a1, if_pos a1, h _ h2, a1, Int32.add_assoc]
      · rw [if_neg a1, if_neg a1]
        by_cases a2 : r = sl_hi β q
        · rw [if_pos a2, if_pos a2, h _ h1, a2, Int32.sub_eq_add_neg, Int32.sub_eq_add_neg, Int32.add_assoc]
        · rw [if_neg a2, if_neg a2, h r hr]
theorem sl_next_pos {sl : Int32} {β ρ : Nat → Int32} {r : Nat} : ∀ k, sl_next sl β ρ k = some r → 0 < ρ (sl_hi β r)
  | 0, h => by cases h
  | k + 1, h => by
    have h' : (if sl_c sl β ρ (3 - k) then some (3 - k) else sl_next sl β ρ k) = some r := h
    by_cases hh : sl_c sl β ρ (3 - k)
    · rw [if_pos hh] at h'
      cases h'
      exact hh.2
    · rw [if_neg hh] at h'
      exact sl_next_pos k h'
theorem iter_nat (sl : Int32) (S : Nat) (hS : S ≤ 20000) : ∀ (n : Nat) (β ρ : Nat → Int32) (R : Nat → Nat), (∀ r, r < 5 → ρ r = nI (R r)) → nsum R 5 = S → ∃ R2 : Nat → Nat, (∀ r, r < 5 → (sl_iter sl n β ρ).2 r = nI (R2 r)) ∧ nsum R2 5 = S
  | 0, β, ρ, R, h, hs => ⟨R, h, hs⟩
  | n + 1, β, ρ, R, h, hs => by
    cases hq : sl_next sl β ρ 4 with
    | none =>
      rw [sl_iter_none hq]
      exact ⟨R, h, hs⟩
    | some q =>
      rw [sl_iter_some hq]
      have hq4 := sl_next_lt 4 (by omega) q hq
      have h1 := sl_hi_lt β hq4
      have h2 := sl_lo_lt β hq4
      have ne : sl_hi β q ≠ sl_lo β q := by
        unfold sl_hi sl_lo
        split <;> omega
      have pos : 0 < ρ (sl_hi β q) := sl_next_pos 4 hq
      have pn : 1 ≤ R (sl_hi β q) := by
        rw [h _ h1] at pos
        have hb := nsum_at (f := R) h1
        have := (nI_ltI (a := 0) (by omega) (by omega)).mp pos
        omega
      have e1 := nsum_dec (f := R) (g := fun r => if r = sl_hi β q then R (sl_hi β q) - 1 else R r) (x := 1) (i := sl_hi β q) (by simp only [if_true]; omega) (fun k hk => if_neg hk) (n := 5) h1
      have e2 := nsum_dec (f := fun r => if r = sl_lo β q then R (sl_lo β q) + 1 else if r = sl_hi β q then R (sl_hi β q) - 1 else R r) (g := fun r => if r = sl_hi β q then R (sl_hi β q) - 1 else R r) (x := 1) (i := sl_lo β q) (by simp only [if_true, if_neg (Ne.symm ne)]) (fun k hk => (if_neg hk).symm) (n := 5) h2
      refine iter_nat sl S hS n _ _ (fun r => if r = sl_lo β q then R (sl_lo β q) + 1 else if r = sl_hi β q then R (sl_hi β q) - 1 else R r) (fun r hr => ?_) (by omega)
      show (if r = sl_lo β q then (if sl_lo β q = sl_hi β q then ρ (sl_hi β q) - 1 else ρ (sl_lo β q)) + 1 else if r = sl_hi β q then ρ (sl_hi β q) - 1 else ρ r) = nI (if r = sl_lo β q then R (sl_lo β q) + 1 else if r = sl_hi β q then R (sl_hi β q) - 1 else R r)
      rw [if_neg (Ne.symm ne)]
      by_cases a1 : r = sl_lo β q
      · rw [if_pos a1, if_pos a1, h _ h2, nI_1]
      · rw [if_neg a1, if_neg a1]
        by_cases a2 : r = sl_hi β q
        · rw [if_pos a2, if_pos a2, h _ h1, n_lit 1, nI_subI _ _ pn]
        · rw [if_neg a2, if_neg a2, h r hr]
theorem ssl_o {σ : Nat → Int32} {nl l k : Nat} (h : k < 65 + 10 * l ∨ 70 + 10 * l ≤ k) : s_slide σ nl l k = σ k := if_neg (by omega)
theorem ssl_r {σ : Nat → Int32} {nl l r : Nat} (h : r < 5) : s_slide σ nl l (65 + 10 * l + r) = (sl_iter (σ 6) 400 (fun r => s_bulkIn σ r nl) (fun r => σ (65 + 10 * l + r))).2 r := by
  unfold s_slide
  rw [if_pos (by omega), show 65 + 10 * l + r - (65 + 10 * l) = r by omega]
theorem FW.slides {σ : Nat → Int32} {nl : Nat} (h : FW σ (nl + 1)) : FW (s_slide σ (nl + 1) nl) (nl + 1) := by
  intro l hl
  obtain ⟨b2, k, sh, t2, w, g, ρ, hb2, hk5, hsh, ht2, hw1, hw2, e0, ek, es, et, ew, eg, er, hs⟩ := h l hl
  by_cases e : l = nl
  · subst e
    obtain ⟨R, h1, h2⟩ := iter_nat (σ 6) (nsum ρ 5) (by omega) 400 (fun r => s_bulkIn σ r (l + 1)) (fun r => σ (65 + 10 * l + r)) ρ er rfl
    refine ⟨b2, k, sh, t2, w, g, R, hb2, hk5, hsh, ht2, hw1, hw2, ?_, ?_, ?_, ?_, ?_, ?_, fun r hr => ?_, by omega⟩
    · rw [ssl_o (by omega), e0]
    · rw [ssl_o (by omega), ek]
    · rw [ssl_o (by omega), es]
    · rw [ssl_o (by omega), et]
    · rw [ssl_o (by omega), ew]
    · rw [ssl_o (by omega), eg]
    · rw [ssl_r hr]
      exact h1 r hr
  · refine ⟨b2, k, sh, t2, w, g, ρ, hb2, hk5, hsh, ht2, hw1, hw2, ?_, ?_, ?_, ?_, ?_, ?_, fun r hr => ?_, hs⟩
    · rw [ssl_o (by omega), e0]
    · rw [ssl_o (by omega), ek]
    · rw [ssl_o (by omega), es]
    · rw [ssl_o (by omega), et]
    · rw [ssl_o (by omega), ew]
    · rw [ssl_o (by omega), eg]
    · rw [ssl_o (by omega), er r hr]
theorem FR.slides {M M2 : Mm} {f nl : Nat} {σ : Nat → Int32} {la : Nat → Nat} (h : FR M f σ (nl + 1) la) (hnl : nl < 24) (hW : FW σ (nl + 1)) (hq : SlQ M f (la nl) (sl_iter (σ 6) 400 (mI M (f + 50)) (mI M (la nl + 1))) M2) : FR M2 f (s_slide σ (nl + 1) nl) (nl + 1) la := by
  obtain ⟨hP, ⟨d0, d1, d2, d3, d5, d6⟩, hL⟩ := h
  obtain ⟨q1, q2, q3, q4, q5⟩ := hq
  have an := hP.at hnl
  have hn := hL nl (by omega)
  have ec := sl_iter_cong (σ 6) 400 (β := mI M (f + 50)) (β2 := fun r => s_bulkIn σ r (nl + 1)) (ρ := mI M (la nl + 1)) (ρ2 := fun r => σ (65 + 10 * nl + r)) d6 hn.2.2.2.2.2.2.2.2.2
  have ef : mI M2 f = mI M f := q3 _ (by omega) (by omega)
  refine ⟨hP.mR q5, ⟨?_, ?_, ?_, ?_, ?_, fun r hr => ?_⟩, fun l hl => ?_⟩
  · rw [ef, ssl_o (by omega), d0]
  · rw [ef, ssl_o (by omega), d1]
  · rw [ef, ssl_o (by omega), d2]
  · rw [ef, ssl_o (by omega), d3]
  · rw [ef, d5]
  · rw [q1, ec.1 r hr, iter_diff (σ 6) (fun r => s_bulkIn σ r nl) 400 (fun r => s_bulkIn σ r (nl + 1)) (fun r => σ (65 + 10 * nl + r)) (fun r _ => rfl) r hr]
    show _ = s_bulkIn (s_slide σ (nl + 1) nl) r nl + s_slide σ (nl + 1) nl (65 + 10 * nl + r)
    rw [ssl_r hr]
    congr 1
    exact s_sum_cong (fun k hk => (ssl_o (by omega)).symm)
  · by_cases e : l = nl
    · subst e
      obtain ⟨b2, k, sh, t2, w, g, ρ, hb2, hk5, hsh, ht2, hw1, hw2, e0, _⟩ := hW l (by omega)
      obtain ⟨p0, p1, p2, p3, p4, p5, p6, p7, p8, p9⟩ := hn
      have sa : ∀ c, s_amt (s_slide σ (l + 1) l) l c = s_amt σ l c := fun c => s_amt_cong e0 hb2 ((ssl_o (by omega)).trans e0) (ssl_o (by omega)) (ssl_o (by omega)) (ssl_o (by omega))
      unfold LD
      rw [q3 _ (by omega) (by omega), sa, sa, sa, ssl_o (k := 60 + 10 * l) (by omega), ssl_o (k := 61 + 10 * l) (by omega), ssl_o (k := 62 + 10 * l) (by omega), ssl_o (k := 63 + 10 * l) (by omega), ssl_o (k := 64 + 10 * l) (by omega), e0, nI_clamp (by omega), ssl_o (k := 20 + 5 * b2) (by omega)]
      rw [e0, nI_clamp (by omega)] at p3
      refine ⟨p0.trans e0, p1, p2, p3, p4, p5, p6, p7, p8, fun r hr => ?_⟩
      rw [q2, ec.2 r hr, ssl_r hr]
    · have ne := hP.ne (l := l) (j := nl) (by omega) hnl e
      have al := hP.at (l := l) (by omega)
      obtain ⟨b2, k, sh, t2, w, g, ρ, hb2, hk5, hsh, ht2, hw1, hw2, e0, _⟩ := hW l hl
      exact LD.move (hL l hl) e0 hb2 (ssl_o (by omega)) (ssl_o (by omega)) (fun k hk => ssl_o (by omega)) (q3 _ (by omega) (by omega)) (q3 _ (by omega) (by omega))
