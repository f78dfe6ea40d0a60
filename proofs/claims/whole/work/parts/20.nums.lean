/-! numbers: what amounts come to, within their ends -/
theorem nI_div {a d : Nat} (ha : a < 2147483648) (h0 : 0 < d) (hd : d < 2147483648) : nI a / nI d = nI (a / d) := pk_div (by omega) h0 (by omega)
theorem nI_subI (a b : Nat) (h : b ≤ a) : nI a - nI b = nI (a - b) := pk_sub h
theorem nI_lt_iff {a b : Nat} (ha : a < 2147483648) (hb : b < 2147483648) : nI a < nI b ↔ a < b := nI_ltI (by omega) (by omega)
theorem nI_le_iff {a b : Nat} (ha : a < 2147483648) (hb : b < 2147483648) : nI a ≤ nI b ↔ a ≤ b := nI_leI (by omega) (by omega)
theorem nI_inj {a b : Nat} (ha : a < 2147483648) (hb : b < 2147483648) : nI a = nI b ↔ a = b := nI_eq (by omega) (by omega)
theorem nI_sub_toInt {a b : Nat} (ha : a < 1073741824) (hb : b < 1073741824) : (nI a - nI b).toInt = (a : Int) - b := pk_sub_toInt (by omega) (by omega)
theorem mul_le_of {a b A B : Nat} (h1 : a ≤ A) (h2 : b ≤ B) : a * b ≤ A * B := Nat.mul_le_mul h1 h2
/-- iron in Nats -/
def n_iron (k sh t : Nat) : Nat := if k = 1 then t * sh / 100 else if k = 3 then t * sh / 100 - t / 20 else 0
def n_acid (k sh t : Nat) : Nat := if k = 5 then 0 else t / 10 + (if k = 1 ∨ k = 3 then (t - n_iron k sh t) / 4 else 0)
def n_lime (k sh t : Nat) : Nat := if k = 3 then t / 8 else if k = 5 then t * sh / 100 else 0
def n_bulk (k t : Nat) : Nat := if k = 1 ∨ k = 3 then t - t / 4 else if k = 2 then 2 * t else t
theorem kq {k c : Nat} (hk : k ≤ 5) (hc : c ≤ 5) : (nI k = nI c) = (k = c) := propext (nI_inj (by omega) (by omega))
theorem n_iron_le {k sh t : Nat} (hs : sh ≤ 99) (ht : t ≤ 9999) : n_iron k sh t ≤ t := by
  have h1 : t * sh ≤ t * 99 := Nat.mul_le_mul_left _ hs
  have h2 : t * sh / 100 ≤ t * 99 / 100 := Nat.div_le_div_right h1
  unfold n_iron
  split
  · omega
  · split <;> omega
theorem f_iron_n {k sh t : Nat} (hk : k ≤ 5) (hs : sh ≤ 99) (ht : t ≤ 9999) : f_iron (nI k) (nI sh) (nI t) = nI (n_iron k sh t) := by
  have h1 : t * sh ≤ 9999 * 99 := Nat.mul_le_mul ht hs
  unfold f_iron n_iron
  rw [pk_mul, n_lit 1, n_lit 3, n_lit 100, n_lit 20, n_lit 0, nI_div (by omega) (by omega) (by omega), nI_div (by omega) (by omega) (by omega)]
  simp only [kq (c := 1) hk (by omega), kq (c := 2) hk (by omega), kq (c := 3) hk (by omega), kq (c := 5) hk (by omega), nI_le_iff (a := t / 20) (b := t * sh / 100) (by omega) (by omega)]
  split
  · rfl
  · split
    · split
      · rw [nI_subI _ _ (by assumption)]
      · congr 1
        omega
    · rfl
theorem g_iron_n {k sh t : Nat} (hk : k ≤ 5) (hs : sh ≤ 99) (ht : t ≤ 9999) : g_iron (nI k) (nI sh) (nI t) = nI (n_iron k sh t) := by
  have h1 : t * sh ≤ 9999 * 99 := Nat.mul_le_mul ht hs
  unfold g_iron n_iron
  rw [pk_mul, n_lit 1, n_lit 3, n_lit 100, n_lit 20, n_lit 0, nI_div (by omega) (by omega) (by omega), nI_div (by omega) (by omega) (by omega)]
  simp only [kq (c := 1) hk (by omega), kq (c := 2) hk (by omega), kq (c := 3) hk (by omega), kq (c := 5) hk (by omega)]
  by_cases h3 : k = 3
  · subst h3
    rw [if_pos rfl, if_neg (show ¬ (3 : Nat) = 1 by omega), if_pos rfl]
    have e : (nI 0 ≤ nI (t * sh / 100) - nI (t / 20)) ↔ t / 20 ≤ t * sh / 100 := by
      rw [fa_le, nI_sub_toInt (by omega) (by omega), nI_toInt (by omega)]
      omega
    by_cases h4 : t / 20 ≤ t * sh / 100
    · rw [if_pos ⟨Or.inr rfl, e.mpr h4⟩, nI_subI _ _ h4]
    · rw [if_neg (fun q => h4 (e.mp q.2))]
      congr 1
      omega
  · rw [if_neg h3, if_neg h3]
    by_cases h1 : k = 1
    · subst h1
      have e : nI 0 ≤ nI (t * sh / 100) - nI 0 := by
        rw [nI_subI _ _ (by omega)]
        exact (nI_le_iff (by omega) (by omega)).mpr (by omega)
      rw [if_pos ⟨Or.inl rfl, e⟩, if_pos rfl, nI_subI _ _ (by omega)]
      rfl
    · rw [if_neg (fun q => by rcases q.1 with q | q <;> contradiction), if_neg h1]
theorem f_acid_n {k sh t : Nat} (hk : k ≤ 5) (hs : sh ≤ 99) (ht : t ≤ 9999) : f_acid (nI k) (nI sh) (nI t) = nI (n_acid k sh t) := by
  have h2 := n_iron_le (k := k) hs ht
  unfold f_acid n_acid
  rw [f_iron_n hk hs ht, n_lit 1, n_lit 3, n_lit 5, n_lit 10, n_lit 4, nI_subI _ _ h2, nI_div (by omega) (by omega) (by omega), nI_div (by omega) (by omega) (by omega), nI_add]
  simp only [kq (c := 1) hk (by omega), kq (c := 2) hk (by omega), kq (c := 3) hk (by omega), kq (c := 5) hk (by omega)]
  by_cases h1 : k = 1 ∨ k = 3
  · rw [if_pos h1, if_pos h1, if_neg (by omega)]
  · rw [if_neg h1, if_neg h1]
    split
    · rfl
    · rfl
theorem g_acid_n {k sh t : Nat} (hk : k ≤ 5) (hs : sh ≤ 99) (ht : t ≤ 9999) : g_acid (nI k) (nI sh) (nI t) = nI (n_acid k sh t) := by
  have h2 := n_iron_le (k := k) hs ht
  unfold g_acid n_acid
  rw [g_iron_n hk hs ht, n_lit 1, n_lit 3, n_lit 5, n_lit 10, n_lit 4, n_lit 0, nI_subI _ _ h2, nI_div (by omega) (by omega) (by omega), nI_div (by omega) (by omega) (by omega)]
  simp only [kq (c := 1) hk (by omega), kq (c := 2) hk (by omega), kq (c := 3) hk (by omega), kq (c := 5) hk (by omega)]
  split
  · rfl
  · split
    · rw [nI_add]
    · rw [nI_add]
theorem f_lime_n {k sh t : Nat} (hk : k ≤ 5) (hs : sh ≤ 99) (ht : t ≤ 9999) : f_lime (nI k) (nI sh) (nI t) = nI (n_lime k sh t) := by
  have h1 : t * sh ≤ 9999 * 99 := Nat.mul_le_mul ht hs
  unfold f_lime n_lime
  rw [pk_mul, n_lit 3, n_lit 5, n_lit 8, n_lit 100, n_lit 0, nI_div (by omega) (by omega) (by omega), nI_div (by omega) (by omega) (by omega)]
  simp only [kq (c := 1) hk (by omega), kq (c := 2) hk (by omega), kq (c := 3) hk (by omega), kq (c := 5) hk (by omega)]
  split
  · rfl
  · split <;> rfl
theorem f_bulk_n {k t : Nat} (hk : k ≤ 5) (ht : t ≤ 9999) : f_bulk (nI k) (nI t) = nI (n_bulk k t) := by
  unfold f_bulk n_bulk
  rw [n_lit 1, n_lit 3, n_lit 2, n_lit 4, nI_div (by omega) (by omega) (by omega), nI_subI _ _ (by omega), pk_mul]
  simp only [kq (c := 1) hk (by omega), kq (c := 2) hk (by omega), kq (c := 3) hk (by omega), kq (c := 5) hk (by omega)]
  split
  · rfl
  · split <;> rfl
theorem n_acid_le {k sh t : Nat} (ht : t ≤ 9999) : n_acid k sh t ≤ t := by
  unfold n_acid
  split
  · omega
  · split <;> omega
theorem n_lime_le {k sh t : Nat} (hs : sh ≤ 99) (ht : t ≤ 9999) : n_lime k sh t ≤ t := by
  have h1 : t * sh ≤ t * 99 := Nat.mul_le_mul_left _ hs
  have h2 : t * sh / 100 ≤ t * 99 / 100 := Nat.div_le_div_right h1
  unfold n_lime
  split
  · omega
  · split <;> omega
theorem fg_iron {k sh t : Nat} (hk : k ≤ 5) (hs : sh ≤ 99) (ht : t ≤ 9999) : f_iron (nI k) (nI sh) (nI t) = g_iron (nI k) (nI sh) (nI t) := by rw [f_iron_n hk hs ht, g_iron_n hk hs ht]
theorem fg_acid {k sh t : Nat} (hk : k ≤ 5) (hs : sh ≤ 99) (ht : t ≤ 9999) : f_acid (nI k) (nI sh) (nI t) = g_acid (nI k) (nI sh) (nI t) := by rw [f_acid_n hk hs ht, g_acid_n hk hs ht]
theorem g_amt_n {k sh t : Nat} (hk : k ≤ 5) (hs : sh ≤ 99) (ht : t ≤ 9999) (w : Int32) : ∃ A, A ≤ t ∧ g_amt (nI k) (nI sh) (nI t) w = nI A := by
  unfold g_amt
  split
  · exact ⟨_, n_iron_le hs ht, g_iron_n hk hs ht⟩
  · split
    · exact ⟨_, n_acid_le ht, g_acid_n hk hs ht⟩
    · exact ⟨_, n_lime_le hs ht, f_lime_n hk hs ht⟩
theorem lN_div {a d : Nat} (ha : a < 9223372036854775808) (h0 : 0 < d) (hd : d < 9223372036854775808) : lN a / lN d = lN (a / d) := pk_lDiv (by omega) h0 (by omega)
/-- what comes to the hearth: the class's ints and the reference's longs say the same -/
theorem inc_eq {A g x w : Nat} (hA : A ≤ 9999) (hx : g + x ≤ w) (hw : w ≤ 20000) (h1 : 1 ≤ w) : s_inc (nI A) (nI g) (nI w) (nI x) = nI A * nI (g + x) / nI w - nI A * nI g / nI w := by
  have h2 : A * (g + x) ≤ 9999 * 20000 := Nat.mul_le_mul hA (by omega)
  have h3 : A * g ≤ A * (g + x) := Nat.mul_le_mul_left _ (by omega)
  have h4 : A * g / w ≤ A * (g + x) / w := Nat.div_le_div_right h3
  have h5 : A * (g + x) / w ≤ A * (g + x) := Nat.div_le_self _ _
  unfold s_inc
  rw [nI_add, nI_l (by omega), nI_l (by omega), nI_l (by omega), nI_l (by omega), lN_mul, lN_mul, lN_div (by omega) (by omega) (by omega), lN_div (by omega) (by omega) (by omega), lN_sub h4, lN_i, pk_mul, pk_mul, nI_div (by omega) (by omega) (by omega), nI_div (by omega) (by omega) (by omega), nI_subI _ _ h4]
/-- parts of a whole of n by weights W: how many are left over, and that in the end it is all given -/
def nsum (f : Nat → Nat) : Nat → Nat
  | 0 => 0
  | n + 1 => nsum f n + f n
theorem nsum_le {f g : Nat → Nat} : ∀ {n : Nat}, (∀ k, k < n → f k ≤ g k) → nsum f n ≤ nsum g n
  | 0, _ => Nat.le_refl _
  | n + 1, h => by
    have := nsum_le (n := n) (fun k hk => h k (by omega))
    have := h n (by omega)
    show nsum f n + f n ≤ nsum g n + g n
    omega
theorem nsum_mul (c : Nat) (f : Nat → Nat) : ∀ n, nsum (fun k => c * f k) n = c * nsum f n
  | 0 => rfl
  | n + 1 => by
    show nsum (fun k => c * f k) n + c * f n = c * (nsum f n + f n)
    rw [nsum_mul c f n, Nat.mul_add]
theorem nsum_add (f g : Nat → Nat) : ∀ n, nsum (fun k => f k + g k) n = nsum f n + nsum g n
  | 0 => rfl
  | n + 1 => by
    show nsum (fun k => f k + g k) n + (f n + g n) = nsum f n + f n + (nsum g n + g n)
    rw [nsum_add f g n]
    omega
theorem nsum_cong {f g : Nat → Nat} : ∀ {n : Nat}, (∀ k, k < n → f k = g k) → nsum f n = nsum g n
  | 0, _ => rfl
  | n + 1, h => by
    show nsum f n + f n = nsum g n + g n
    rw [nsum_cong (n := n) (fun k hk => h k (by omega)), h n (by omega)]
theorem nsum_lt {f : Nat → Nat} {A : Nat} (hA : 0 < A) : ∀ {n : Nat}, (∀ k, k < n → f k < A) → nsum f n ≤ n * (A - 1)
  | 0, _ => Nat.zero_le _
  | n + 1, h => by
    have := nsum_lt hA (n := n) (fun k hk => h k (by omega))
    have := h n (by omega)
    show nsum f n + f n ≤ (n + 1) * (A - 1)
    rw [Nat.add_mul, Nat.one_mul]
    omega
/-- the whole parts' sum is the whole but at most four -/
theorem parts_left {x : Nat} {W : Nat → Nat} {A : Nat} (hA : nsum W 5 = A) (h0 : 0 < A) : nsum (fun r => x * W r / A) 5 ≤ x ∧ x ≤ nsum (fun r => x * W r / A) 5 + 4 := by
  have h1 : nsum (fun r => x * W r) 5 = x * A := by rw [nsum_mul, hA]
  have h2 : nsum (fun r => x * W r) 5 = nsum (fun r => A * (x * W r / A) + x * W r % A) 5 := nsum_cong (fun k _ => (Nat.div_add_mod _ _).symm)
  rw [h1, nsum_add, nsum_mul] at h2
  have h3 : nsum (fun r => x * W r % A) 5 ≤ 5 * (A - 1) := nsum_lt h0 (fun k _ => Nat.mod_lt _ h0)
  generalize nsum (fun r => x * W r / A) 5 = S at h2 ⊢
  generalize nsum (fun r => x * W r % A) 5 = R at h2 h3
  constructor
  · by_cases h : S ≤ x
    · exact h
    · have h4 : A * (x + 1) ≤ A * S := Nat.mul_le_mul_left _ (by omega)
      rw [Nat.mul_add, Nat.mul_comm A x] at h4
      omega
  · by_cases h : x ≤ S + 4
    · exact h
    · have h4 : A * (S + 5) ≤ A * x := Nat.mul_le_mul_left _ (by omega)
      rw [Nat.mul_add, Nat.mul_comm A x] at h4
      omega
